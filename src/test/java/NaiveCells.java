import java.util.ArrayList;
import java.util.Arrays;
import java.util.List;

/** The document once more, slowly and by its own words: what the program's answers are compared with. */
public final class NaiveCells {
    private static final class Cell {
        int statement;
        int row;
        int column;
        int time;
        int step;
        int end;
    }

    private static final class NaiveStatement {
        int addend;
        int offset;
        boolean lasting;
        List<int[]> reads = new ArrayList<>();
        String kind = "whole";
        int a;
        int b;
    }

    private final List<NaiveStatement> statements = new ArrayList<>();
    private int rows = 4;
    private int columns = 4;
    private int rowWeight = 1;
    private int columnWeight = 0;

    public int addStatement(int addend) {
        range(addend, 0, 99);
        if (statements.size() == 4) {
            throw new IllegalStateException();
        }
        NaiveStatement added = new NaiveStatement();
        added.addend = addend;
        statements.add(added);
        return statements.size() - 1;
    }

    public int addRead(int statement, int source, int factor, int rowsBack, int columnsBack) {
        NaiveStatement changed = at(statement);
        at(source);
        range(factor, 1, 9);
        range(rowsBack, 0, 3);
        range(columnsBack, -3, 3);
        if (changed.reads.size() == 4) {
            throw new IllegalStateException();
        }
        changed.reads.add(new int[] {source, factor, rowsBack, columnsBack});
        return changed.reads.size() - 1;
    }

    public int dropReads(int statement) {
        int had = at(statement).reads.size();
        at(statement).reads.clear();
        return had;
    }

    public boolean setLasting(int statement, boolean lasting) {
        boolean before = at(statement).lasting;
        at(statement).lasting = lasting;
        return before;
    }

    public int setField(int rows, int columns) {
        range(rows, 1, 8);
        range(columns, 1, 8);
        this.rows = rows;
        this.columns = columns;
        return rows * columns;
    }

    public boolean setSchedule(int rowWeight, int columnWeight) {
        boolean allowed = isAllowedWith(rowWeight, columnWeight);
        this.rowWeight = rowWeight;
        this.columnWeight = columnWeight;
        return allowed;
    }

    public boolean setOffset(int statement, int offset) {
        at(statement);
        range(offset, 0, 30);
        at(statement).offset = offset;
        return isAllowed();
    }

    public boolean isAllowed() {
        return isAllowedWith(rowWeight, columnWeight);
    }

    public boolean isAllowedWith(int rowWeight, int columnWeight) {
        range(rowWeight, 0, 9);
        range(columnWeight, 0, 9);
        List<Cell> order = order(rowWeight, columnWeight);
        for (Cell reader : order) {
            for (int[] read : at(reader.statement).reads) {
                Cell cell = find(order, read[0], reader.row - read[2], reader.column - read[3]);
                if (cell != null && cell.step >= reader.step) {
                    return false;
                }
            }
        }
        return true;
    }

    public boolean isReadInOrder(int statement, int read) {
        if (read < 0 || read >= at(statement).reads.size()) {
            throw new IndexOutOfBoundsException();
        }
        int[] looked = at(statement).reads.get(read);
        List<Cell> order = order(rowWeight, columnWeight);
        boolean inOrder = true;
        for (Cell reader : order) {
            Cell cell = find(order, looked[0], reader.row - looked[2], reader.column - looked[3]);
            if (reader.statement == statement && cell != null) {
                inOrder &= cell.step < reader.step;
            }
        }
        return inOrder;
    }

    public int steps() {
        return statements.size() * rows * columns;
    }

    public int stepOf(int statement, int row, int column) {
        return cell(statement, row, column).step;
    }

    public int statementAt(int step) {
        return cellAt(step).statement;
    }

    public int pointAt(int step) {
        return line(cellAt(step));
    }

    public int endOf(int statement, int row, int column) {
        return cell(statement, row, column).end;
    }

    public int liveAt(int step) {
        cellAt(step);
        int live = 0;
        for (Cell cell : order(rowWeight, columnWeight)) {
            live += isLive(cell, step) ? 1 : 0;
        }
        return live;
    }

    public int mostLive() {
        int most = 0;
        for (int step = 0; step < steps(); step++) {
            most = Math.max(most, liveAt(step));
        }
        return most;
    }

    public int mostLiveOf(int statement) {
        at(statement);
        List<Cell> order = order(rowWeight, columnWeight);
        int most = 0;
        for (int step = 0; step < steps(); step++) {
            int live = 0;
            for (Cell cell : order) {
                live += cell.statement == statement && isLive(cell, step) ? 1 : 0;
            }
            most = Math.max(most, live);
        }
        return most;
    }

    public int conflictsOf(int statement, int row, int column, int other) {
        Cell cell = cell(statement, row, column);
        at(other);
        int conflicts = 0;
        for (Cell second : order(rowWeight, columnWeight)) {
            if (second.statement == other && conflict(cell, second)) {
                conflicts++;
            }
        }
        return conflicts;
    }

    public int conflictPairs(int statement) {
        at(statement);
        return conflicts(order(rowWeight, columnWeight), statement, statement).size();
    }

    public int keepWhole(int statement) {
        return keep(statement, "whole", 0, 0);
    }

    public int keepRest(int statement, int modulus) {
        at(statement);
        range(modulus, 1, 99);
        return keep(statement, "rest", modulus, 0);
    }

    public int keepTwoRests(int statement, int rowModulus, int columnModulus) {
        at(statement);
        range(rowModulus, 1, 99);
        range(columnModulus, 1, 99);
        return keep(statement, "two", rowModulus, columnModulus);
    }

    public int keepSlant(int statement, int slant, int modulus) {
        at(statement);
        range(slant, 0, 9);
        range(modulus, 1, 99);
        return keep(statement, "slant", slant, modulus);
    }

    public int contract() {
        for (int s = 0; s < statements.size(); s++) {
            int whole = rows * columns;
            int rest = leastRest(s);
            int[] two = leastTwo(s);
            int[] slant = leastSlantWindow(s);
            int smallest = Math.min(Math.min(whole, rest), Math.min(two[0] * two[1], slant[1]));
            if (whole == smallest) {
                keepWhole(s);
            } else if (rest == smallest) {
                keepRest(s, rest);
            } else if (two[0] * two[1] == smallest) {
                keepTwoRests(s, two[0], two[1]);
            } else {
                keepSlant(s, slant[0], slant[1]);
            }
        }
        return room();
    }

    public int windowSize(int statement) {
        NaiveStatement kept = at(statement);
        switch (kept.kind) {
            case "whole": return rows * columns;
            case "rest": return kept.a;
            case "two": return kept.a * kept.b;
            default: return kept.b;
        }
    }

    public int room() {
        int room = 0;
        for (int s = 0; s < statements.size(); s++) {
            room += windowSize(s);
        }
        return room;
    }

    public int placeOf(int statement, int row, int column) {
        return place(cell(statement, row, column), at(statement).kind, at(statement).a, at(statement).b);
    }

    public boolean isRight(int statement) {
        return right(statement, at(statement).kind, at(statement).a, at(statement).b);
    }

    public int leastRest(int statement) {
        return leastRestOver(conflicts(order(rowWeight, columnWeight), statement, statement));
    }

    public int leastRestByDifferences(int statement) {
        at(statement);
        List<Cell[]> conflicts = conflicts(order(rowWeight, columnWeight), statement, statement);
        for (int modulus = 1; ; modulus++) {
            boolean divides = false;
            for (Cell[] pair : conflicts) {
                divides |= (line(pair[0]) - line(pair[1])) % modulus == 0;
            }
            if (!divides) {
                return modulus;
            }
        }
    }

    public int leastRowRest(int statement) {
        return leastTwo(statement)[0];
    }

    public int leastColumnRest(int statement) {
        return leastTwo(statement)[1];
    }

    public int leastSlantModulus(int statement) {
        return leastSlantWindow(statement)[1];
    }

    public int leastSlant(int statement) {
        return leastSlantWindow(statement)[0];
    }

    public int leastJointRest(int one, int other) {
        at(one);
        at(other);
        if (one == other) {
            return leastRest(one);
        }
        List<Cell> order = order(rowWeight, columnWeight);
        List<Cell[]> all = new ArrayList<>(conflicts(order, one, one));
        all.addAll(conflicts(order, other, other));
        all.addAll(conflicts(order, one, other));
        return leastRestOver(all);
    }

    public int valueOf(int statement, int row, int column) {
        cell(statement, row, column);
        return values(false)[stepOf(statement, row, column)];
    }

    public int contractedValueOf(int statement, int row, int column) {
        cell(statement, row, column);
        return values(true)[stepOf(statement, row, column)];
    }

    public int firstWrongStep() {
        return Arrays.mismatch(values(false), values(true));
    }

    public int bestRowWeight() {
        return best()[0];
    }

    public int bestColumnWeight() {
        return best()[1];
    }

    public int bestRoom() {
        return best()[2];
    }

    private int[] best() {
        int[] best = null;
        for (int row = 0; row <= 3; row++) {
            for (int column = 0; column <= 3; column++) {
                if (isAllowedWith(row, column)) {
                    int sum = 0;
                    for (int s = 0; s < statements.size(); s++) {
                        sum += leastRestOver(conflicts(order(row, column), s, s));
                    }
                    if (best == null || sum < best[2]) {
                        best = new int[] {row, column, sum};
                    }
                }
            }
        }
        if (best == null) {
            throw new IllegalStateException();
        }
        return best;
    }

    private int[] values(boolean contracted) {
        List<Cell> order = order(rowWeight, columnWeight);
        int[][] kept = new int[4][9801];
        int[] written = new int[order.size()];
        for (Cell cell : order) {
            NaiveStatement statement = at(cell.statement);
            long sum = statement.addend;
            for (int[] read : statement.reads) {
                int row = cell.row - read[2];
                int column = cell.column - read[3];
                Cell taken = find(order, read[0], row, column);
                int value = taken == null ? ((5 * row + 7 * column + read[0]) % 100 + 100) % 100
                        : kept[read[0]][placeWhere(taken, contracted)];
                sum += (long) read[1] * value;
            }
            written[cell.step] = (int) (sum % 9973);
            kept[cell.statement][placeWhere(cell, contracted)] = written[cell.step];
        }
        return written;
    }

    private int placeWhere(Cell cell, boolean contracted) {
        NaiveStatement statement = at(cell.statement);
        return contracted ? place(cell, statement.kind, statement.a, statement.b) : line(cell);
    }

    private int place(Cell cell, String kind, int a, int b) {
        switch (kind) {
            case "whole": return line(cell);
            case "rest": return line(cell) % a;
            case "two": return (cell.row % a) * b + cell.column % b;
            default: return (cell.row + cell.column * a) % b;
        }
    }

    private boolean right(int statement, String kind, int a, int b) {
        return rightOver(conflicts(order(rowWeight, columnWeight), statement, statement), kind, a, b);
    }

    private boolean rightOver(List<Cell[]> conflicts, String kind, int a, int b) {
        for (Cell[] pair : conflicts) {
            if (place(pair[0], kind, a, b) == place(pair[1], kind, a, b)) {
                return false;
            }
        }
        return true;
    }

    private int leastRestOver(List<Cell[]> conflicts) {
        for (int modulus = 1; modulus <= 99; modulus++) {
            if (rightOver(conflicts, "rest", modulus, 0)) {
                return modulus;
            }
        }
        return -1;
    }

    private int[] leastTwo(int statement) {
        at(statement);
        List<Cell[]> conflicts = conflicts(order(rowWeight, columnWeight), statement, statement);
        for (int places = 1; places <= rows * columns; places++) {
            for (int row = 1; row <= rows; row++) {
                for (int column = 1; column <= columns; column++) {
                    if (row * column == places && rightOver(conflicts, "two", row, column)) {
                        return new int[] {row, column};
                    }
                }
            }
        }
        throw new IllegalStateException("no two-rest window");
    }

    private int[] leastSlantWindow(int statement) {
        at(statement);
        List<Cell[]> conflicts = conflicts(order(rowWeight, columnWeight), statement, statement);
        for (int modulus = 1; modulus <= 99; modulus++) {
            for (int slant = 0; slant <= 9; slant++) {
                if (rightOver(conflicts, "slant", slant, modulus)) {
                    return new int[] {slant, modulus};
                }
            }
        }
        throw new IllegalStateException("no slant window");
    }

    private List<Cell[]> conflicts(List<Cell> order, int one, int other) {
        at(one);
        List<Cell[]> pairs = new ArrayList<>();
        for (Cell first : order) {
            for (Cell second : order) {
                boolean wanted = first.statement == one && second.statement == other;
                boolean twice = one == other && first.step >= second.step;
                if (wanted && !twice && conflict(first, second)) {
                    pairs.add(new Cell[] {first, second});
                }
            }
        }
        return pairs;
    }

    private static boolean conflict(Cell one, Cell other) {
        Cell older = one.step < other.step ? one : other;
        Cell younger = one.step < other.step ? other : one;
        return younger.step > older.step && younger.step < older.end;
    }

    private static boolean isLive(Cell cell, int step) {
        return cell.step < step && !(cell.end < step);
    }

    private List<Cell> order(int rowWeight, int columnWeight) {
        List<Cell> cells = new ArrayList<>();
        for (int s = 0; s < statements.size(); s++) {
            for (int line = 0; line < rows * columns; line++) {
                Cell cell = new Cell();
                cell.statement = s;
                cell.row = line / columns;
                cell.column = line % columns;
                cell.time = cell.row * rowWeight + cell.column * columnWeight + at(s).offset;
                cells.add(cell);
            }
        }
        cells.sort((p, q) -> p.time != q.time ? p.time - q.time
                : p.statement != q.statement ? p.statement - q.statement
                : p.row != q.row ? p.row - q.row : p.column - q.column);
        for (int step = 0; step < cells.size(); step++) {
            cells.get(step).step = step;
            cells.get(step).end = step;
        }
        setEnds(cells);
        return cells;
    }

    private void setEnds(List<Cell> cells) {
        for (Cell reader : cells) {
            for (int[] read : at(reader.statement).reads) {
                Cell cell = find(cells, read[0], reader.row - read[2], reader.column - read[3]);
                if (cell != null && reader.step > cell.step) {
                    cell.end = Math.max(cell.end, reader.step);
                }
            }
        }
        for (Cell cell : cells) {
            if (at(cell.statement).lasting) {
                cell.end = cells.size();
            }
        }
    }

    private Cell cell(int statement, int row, int column) {
        at(statement);
        Cell cell = find(order(rowWeight, columnWeight), statement, row, column);
        if (cell == null) {
            throw new IndexOutOfBoundsException();
        }
        return cell;
    }

    private Cell cellAt(int step) {
        if (step < 0 || step >= steps()) {
            throw new IndexOutOfBoundsException();
        }
        return order(rowWeight, columnWeight).get(step);
    }

    private static Cell find(List<Cell> cells, int statement, int row, int column) {
        for (Cell cell : cells) {
            if (cell.statement == statement && cell.row == row && cell.column == column) {
                return cell;
            }
        }
        return null;
    }

    private int line(Cell cell) {
        return cell.row * columns + cell.column;
    }

    private int keep(int statement, String kind, int a, int b) {
        NaiveStatement kept = at(statement);
        kept.kind = kind;
        kept.a = a;
        kept.b = b;
        return windowSize(statement);
    }

    private NaiveStatement at(int statement) {
        if (statement < 0 || statement >= statements.size()) {
            throw new IndexOutOfBoundsException();
        }
        return statements.get(statement);
    }

    private static void range(int value, int from, int to) {
        if (value < from || value > to) {
            throw new IllegalArgumentException();
        }
    }
}
