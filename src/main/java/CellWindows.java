import java.util.ArrayList;
import java.util.Arrays;

/** A storage contractor for small loop programs; what each call promises stands in ../shared/DOC.md. */
public final class CellWindows {
    private static final int MOST_STATEMENTS = 4;
    private static final int MOST_READS = 4;
    private static final int MOST_ADDEND = 99;
    private static final int MOST_FACTOR = 9;
    private static final int MOST_BACK = 3;
    private static final int MOST_SIDE = 8;
    private static final int FIRST_SIDE = 4;
    private static final int MOST_WEIGHT = 9;
    private static final int MOST_TRIED_WEIGHT = 3;
    private static final int MOST_OFFSET = 30;
    private static final int MOST_MODULUS = 99;
    private static final int MOST_SLANT = 9;

    private static final int VALUE_MODULUS = 9973;
    private static final int BORDER_MODULUS = 100;
    private static final int BORDER_ROW_FACTOR = 5;
    private static final int BORDER_COLUMN_FACTOR = 7;

    private static final int MOST_POINTS = MOST_SIDE * MOST_SIDE;
    private static final int MOST_CELLS = MOST_STATEMENTS * MOST_POINTS;
    private static final int LATEST_TIME = 2 * MOST_WEIGHT * (MOST_SIDE - 1) + MOST_OFFSET;
    // A two-rest window may count 9801 places, but the cells of the largest field lie in its first ones.
    private static final int REACHED_PLACES = (MOST_SIDE - 1) * MOST_MODULUS + MOST_SIDE;
    // Rows and columns of two points differ by -7 to 7.
    private static final int SIDE_DIFFERENCES = 2 * MOST_SIDE - 1;

    private static final int NONE = -1;

    private final Program program = new Program();
    private final Work work = new Work();
    private final Differences differences = new Differences();
    private final Window least = new Window();
    private final Machine plainMachine = new Machine(false);
    private final Machine contractedMachine = new Machine(true);
    private final Best best = new Best();
    private int rowWeight = 1;
    private int columnWeight = 0;

    public CellWindows() {
    }

    // ---- the program

    public int addStatement(int addend) throws IllegalArgumentException, IllegalStateException {
        requireRange(addend, 0, MOST_ADDEND);
        if (program.statements.size() >= MOST_STATEMENTS) {
            throw new IllegalStateException("there are 4 statements");
        }
        program.statements.add(new Statement(addend));
        return program.statements.size() - 1;
    }

    public int addRead(int statement, int source, int factor, int rowsBack, int columnsBack)
            throws IndexOutOfBoundsException, IllegalArgumentException, IllegalStateException {
        requireStatement(statement);
        requireStatement(source);
        requireRange(factor, 1, MOST_FACTOR);
        requireRange(rowsBack, 0, MOST_BACK);
        requireRange(columnsBack, -MOST_BACK, MOST_BACK);
        ArrayList<Read> reads = program.statements.get(statement).reads;
        if (reads.size() >= MOST_READS) {
            throw new IllegalStateException("the statement has 4 reads");
        }
        reads.add(new Read(source, factor, rowsBack, columnsBack));
        return reads.size() - 1;
    }

    public int dropReads(int statement) throws IndexOutOfBoundsException {
        requireStatement(statement);
        ArrayList<Read> reads = program.statements.get(statement).reads;
        int dropped = reads.size();
        reads.clear();
        return dropped;
    }

    public boolean setLasting(int statement, boolean lasting) throws IndexOutOfBoundsException {
        requireStatement(statement);
        Statement changed = program.statements.get(statement);
        boolean before = changed.lasting;
        changed.lasting = lasting;
        return before;
    }

    public int setField(int rows, int columns) throws IllegalArgumentException {
        requireRange(rows, 1, MOST_SIDE);
        requireRange(columns, 1, MOST_SIDE);
        program.spread(rows, columns);
        return program.points;
    }

    // ---- the order of work

    public boolean setSchedule(int rowWeight, int columnWeight) throws IllegalArgumentException {
        requireWeights(rowWeight, columnWeight);
        this.rowWeight = rowWeight;
        this.columnWeight = columnWeight;
        return isAllowed();
    }

    public boolean setOffset(int statement, int offset) throws IndexOutOfBoundsException, IllegalArgumentException {
        requireStatement(statement);
        requireRange(offset, 0, MOST_OFFSET);
        program.statements.get(statement).offset = offset;
        return isAllowed();
    }

    public boolean isAllowed() {
        return program.allows(rowWeight, columnWeight);
    }

    public boolean isAllowedWith(int rowWeight, int columnWeight) throws IllegalArgumentException {
        requireWeights(rowWeight, columnWeight);
        return program.allows(rowWeight, columnWeight);
    }

    public boolean isReadInOrder(int statement, int read) throws IndexOutOfBoundsException {
        requireStatement(statement);
        ArrayList<Read> reads = program.statements.get(statement).reads;
        if (read < 0 || read >= reads.size()) {
            throw new IndexOutOfBoundsException("no such read");
        }
        return program.comesLater(statement, reads.get(read), rowWeight, columnWeight);
    }

    public int steps() {
        return program.cells();
    }

    public int stepOf(int statement, int row, int column) throws IndexOutOfBoundsException {
        int cell = requireCell(statement, row, column);
        return arranged().birth[cell];
    }

    public int statementAt(int step) throws IndexOutOfBoundsException {
        requireStep(step);
        arranged();
        return work.number[work.cellAt[step]];
    }

    public int pointAt(int step) throws IndexOutOfBoundsException {
        requireStep(step);
        arranged();
        int cell = work.cellAt[step];
        return cell - program.firstCell(work.number[cell]);
    }

    // ---- lives and conflicts

    public int endOf(int statement, int row, int column) throws IndexOutOfBoundsException {
        int cell = requireCell(statement, row, column);
        return arranged().end[cell];
    }

    public int liveAt(int step) throws IndexOutOfBoundsException {
        requireStep(step);
        return arranged().countLive(step);
    }

    public int mostLive() {
        return arranged().mostLiveAmong(0, program.cells());
    }

    public int mostLiveOf(int statement) throws IndexOutOfBoundsException {
        requireStatement(statement);
        return arranged().mostLiveAmong(program.firstCell(statement), program.firstCell(statement + 1));
    }

    public int conflictsOf(int statement, int row, int column, int other) throws IndexOutOfBoundsException {
        int cell = requireCell(statement, row, column);
        requireStatement(other);
        return arranged().countConflicts(cell, program.firstCell(other), program.firstCell(other + 1));
    }

    public int conflictPairs(int statement) throws IndexOutOfBoundsException {
        requireStatement(statement);
        arranged();
        int pairs = 0;
        int afterLast = program.firstCell(statement + 1);
        for (int cell = program.firstCell(statement); cell < afterLast; cell++) {
            pairs += work.countConflicts(cell, cell + 1, afterLast);
        }
        return pairs;
    }

    // ---- windows

    public int keepWhole(int statement) throws IndexOutOfBoundsException {
        requireStatement(statement);
        program.statements.get(statement).window.becomeWhole();
        return placesOf(statement);
    }

    public int keepRest(int statement, int modulus) throws IndexOutOfBoundsException, IllegalArgumentException {
        requireStatement(statement);
        requireRange(modulus, 1, MOST_MODULUS);
        program.statements.get(statement).window.becomeRest(modulus);
        return placesOf(statement);
    }

    public int keepTwoRests(int statement, int rowModulus, int columnModulus)
            throws IndexOutOfBoundsException, IllegalArgumentException {
        requireStatement(statement);
        requireRange(rowModulus, 1, MOST_MODULUS);
        requireRange(columnModulus, 1, MOST_MODULUS);
        program.statements.get(statement).window.becomeTwoRests(rowModulus, columnModulus);
        return placesOf(statement);
    }

    public int keepSlant(int statement, int slant, int modulus)
            throws IndexOutOfBoundsException, IllegalArgumentException {
        requireStatement(statement);
        requireRange(slant, 0, MOST_SLANT);
        requireRange(modulus, 1, MOST_MODULUS);
        program.statements.get(statement).window.becomeSlant(slant, modulus);
        return placesOf(statement);
    }

    public int contract() {
        arranged();
        for (int statement = 0; statement < program.statements.size(); statement++) {
            gatherDifferences(statement);
            keepSmallest(program.statements.get(statement).window);
        }
        return room();
    }

    public int windowSize(int statement) throws IndexOutOfBoundsException {
        requireStatement(statement);
        return placesOf(statement);
    }

    public int room() {
        int places = 0;
        for (int statement = 0; statement < program.statements.size(); statement++) {
            places += placesOf(statement);
        }
        return places;
    }

    public int placeOf(int statement, int row, int column) throws IndexOutOfBoundsException {
        requireStatement(statement);
        requirePoint(row, column);
        return program.statements.get(statement).window.placeFor(row, column, program.columns);
    }

    public boolean isRight(int statement) throws IndexOutOfBoundsException {
        requireStatement(statement);
        arranged();
        gatherDifferences(statement);
        return differences.areKeptApart(program.statements.get(statement).window);
    }

    // ---- the least windows

    public int leastRest(int statement) throws IndexOutOfBoundsException {
        requireStatement(statement);
        arranged();
        gatherDifferences(statement);
        return differences.leastRestModulus(least);
    }

    public int leastRestByDifferences(int statement) throws IndexOutOfBoundsException {
        requireStatement(statement);
        arranged();
        gatherDifferences(statement);
        return differences.leastModulusDividingNone();
    }

    public int leastRowRest(int statement) throws IndexOutOfBoundsException {
        requireStatement(statement);
        arranged();
        gatherDifferences(statement);
        differences.findTwoRests(least);
        return least.rowModulus;
    }

    public int leastColumnRest(int statement) throws IndexOutOfBoundsException {
        requireStatement(statement);
        arranged();
        gatherDifferences(statement);
        differences.findTwoRests(least);
        return least.columnModulus;
    }

    public int leastSlantModulus(int statement) throws IndexOutOfBoundsException {
        requireStatement(statement);
        arranged();
        gatherDifferences(statement);
        differences.findSlant(least);
        return least.modulus;
    }

    public int leastSlant(int statement) throws IndexOutOfBoundsException {
        requireStatement(statement);
        arranged();
        gatherDifferences(statement);
        differences.findSlant(least);
        return least.slant;
    }

    public int leastJointRest(int one, int other) throws IndexOutOfBoundsException {
        requireStatement(one);
        requireStatement(other);
        arranged();
        gatherDifferences(one);
        if (other != one) {
            differences.add(program, work, other, other);
            differences.add(program, work, one, other);
        }
        return differences.leastRestModulus(least);
    }

    // ---- values

    public int valueOf(int statement, int row, int column) throws IndexOutOfBoundsException {
        int cell = requireCell(statement, row, column);
        return valueWritten(plainMachine, cell);
    }

    public int contractedValueOf(int statement, int row, int column) throws IndexOutOfBoundsException {
        int cell = requireCell(statement, row, column);
        return valueWritten(contractedMachine, cell);
    }

    public int firstWrongStep() {
        arranged();
        plainMachine.empty();
        contractedMachine.empty();
        for (int step = 0; step < program.cells(); step++) {
            int cell = work.cellAt[step];
            if (plainMachine.doStep(program, work, cell) != contractedMachine.doStep(program, work, cell)) {
                return step;
            }
        }
        return NONE;
    }

    // ---- the schedule with the least room

    public int bestRowWeight() throws IllegalStateException {
        findBest();
        return best.rowWeight;
    }

    public int bestColumnWeight() throws IllegalStateException {
        findBest();
        return best.columnWeight;
    }

    public int bestRoom() throws IllegalStateException {
        findBest();
        return best.room;
    }

    // ---- what the calls ask for

    private static void requireRange(int value, int from, int to) {
        if (value < from || value > to) {
            throw new IllegalArgumentException("out of range");
        }
    }

    private static void requireWeights(int rowWeight, int columnWeight) {
        requireRange(rowWeight, 0, MOST_WEIGHT);
        requireRange(columnWeight, 0, MOST_WEIGHT);
    }

    private void requireStatement(int statement) {
        if (statement < 0 || statement >= program.statements.size()) {
            throw new IndexOutOfBoundsException("no such statement");
        }
    }

    private void requirePoint(int row, int column) {
        if (!program.hasPoint(row, column)) {
            throw new IndexOutOfBoundsException("no such point");
        }
    }

    private int requireCell(int statement, int row, int column) {
        requireStatement(statement);
        requirePoint(row, column);
        return program.cellOf(statement, row, column);
    }

    private void requireStep(int step) {
        if (step < 0 || step >= program.cells()) {
            throw new IndexOutOfBoundsException("no such step");
        }
    }

    // ---- what several calls share

    /** The work is arranged anew for each call that looks at it, so it can never be out of date. */
    private Work arranged() {
        work.arrange(program, rowWeight, columnWeight);
        return work;
    }

    private void gatherDifferences(int statement) {
        differences.clear(program);
        differences.add(program, work, statement, statement);
    }

    private int placesOf(int statement) {
        return program.statements.get(statement).window.places(program.points);
    }

    /** The kinds are tried in the order of the document, so that of equally small windows the first one stays. */
    private void keepSmallest(Window window) {
        window.becomeWhole();
        differences.leastRestModulus(least);
        keepIfSmaller(window);
        differences.findTwoRests(least);
        keepIfSmaller(window);
        differences.findSlant(least);
        keepIfSmaller(window);
    }

    private void keepIfSmaller(Window window) {
        int points = program.points;
        if (least.places(points) < window.places(points)) {
            window.become(least);
        }
    }

    private int valueWritten(Machine machine, int cell) {
        arranged();
        machine.empty();
        int value = 0;
        for (int step = 0; step <= work.birth[cell]; step++) {
            value = machine.doStep(program, work, work.cellAt[step]);
        }
        return value;
    }

    private void findBest() {
        best.found = false;
        for (int row = 0; row <= MOST_TRIED_WEIGHT; row++) {
            for (int column = 0; column <= MOST_TRIED_WEIGHT; column++) {
                if (program.allows(row, column)) {
                    best.offer(row, column, leastRoomWith(row, column));
                }
            }
        }
        if (!best.found) {
            throw new IllegalStateException("no schedule with weights 0 to 3 is allowed");
        }
    }

    private int leastRoomWith(int rowWeight, int columnWeight) {
        work.arrange(program, rowWeight, columnWeight);
        int places = 0;
        for (int statement = 0; statement < program.statements.size(); statement++) {
            gatherDifferences(statement);
            places += differences.leastRestModulus(least);
        }
        return places;
    }

    private static int restOf(int value, int modulus) {
        return modulus < 1 ? 0 : value % modulus;
    }

    // ---- the parts

    private static final class Read {
        private final int source;
        private final int factor;
        private final int rowsBack;
        private final int columnsBack;

        Read(int source, int factor, int rowsBack, int columnsBack) {
            this.source = source;
            this.factor = factor;
            this.rowsBack = rowsBack;
            this.columnsBack = columnsBack;
        }
    }

    private static final class Statement {
        private final int addend;
        private final ArrayList<Read> reads = new ArrayList<Read>();
        private final Window window = new Window();
        private int offset = 0;
        private boolean lasting = false;

        Statement(int addend) {
            this.addend = addend;
        }
    }

    /** The statements and the field. Cells are numbered by statement, then by place in line. */
    private static final class Program {
        private final ArrayList<Statement> statements = new ArrayList<Statement>();
        private int rows = FIRST_SIDE;
        private int columns = FIRST_SIDE;
        private int points = FIRST_SIDE * FIRST_SIDE;

        void spread(int rows, int columns) {
            this.rows = rows;
            this.columns = columns;
            points = rows * columns;
        }

        int cells() {
            return firstCell(statements.size());
        }

        int firstCell(int statement) {
            return statement * points;
        }

        boolean hasPoint(int row, int column) {
            return row >= 0 && row < rows && column >= 0 && column < columns;
        }

        int cellOf(int statement, int row, int column) {
            return statement * points + row * columns + column;
        }

        boolean allows(int rowWeight, int columnWeight) {
            for (int number = 0; number < statements.size(); number++) {
                ArrayList<Read> reads = statements.get(number).reads;
                for (int i = 0; i < reads.size(); i++) {
                    if (!comesLater(number, reads.get(i), rowWeight, columnWeight)) {
                        return false;
                    }
                }
            }
            return true;
        }

        /** A read and the cell that it takes lie equally far apart at all points, so one comparison tells of all. */
        boolean comesLater(int statement, Read read, int rowWeight, int columnWeight) {
            if (read.rowsBack >= rows || Math.abs(read.columnsBack) >= columns) {
                return true;
            }
            int delay = read.rowsBack * rowWeight + read.columnsBack * columnWeight
                    + statements.get(statement).offset - statements.get(read.source).offset;
            if (delay != 0) {
                return delay > 0;
            }
            if (statement != read.source) {
                return statement > read.source;
            }
            return read.rowsBack > 0 || (read.rowsBack == 0 && read.columnsBack > 0);
        }
    }

    /** Where each cell lies, the order of the steps, and the life of each cell. */
    private static final class Work {
        private final int[] number = new int[MOST_CELLS];
        private final int[] row = new int[MOST_CELLS];
        private final int[] column = new int[MOST_CELLS];
        private final int[] birth = new int[MOST_CELLS];
        private final int[] end = new int[MOST_CELLS];
        private final int[] cellAt = new int[MOST_CELLS];
        private final int[] time = new int[MOST_CELLS];
        private final int[] nextStep = new int[LATEST_TIME + 2];
        private final int[] change = new int[MOST_CELLS + 2];
        private int cells = 0;

        void arrange(Program program, int rowWeight, int columnWeight) {
            cells = program.cells();
            for (int statement = 0; statement < program.statements.size(); statement++) {
                setTimes(program, statement, rowWeight, columnWeight);
            }
            setSteps();
            setEnds(program);
        }

        private void setTimes(Program program, int statement, int rowWeight, int columnWeight) {
            int offset = program.statements.get(statement).offset;
            int cell = program.firstCell(statement);
            for (int i = 0; i < program.rows; i++) {
                for (int j = 0; j < program.columns; j++) {
                    number[cell] = statement;
                    row[cell] = i;
                    column[cell] = j;
                    time[cell] = i * rowWeight + j * columnWeight + offset;
                    cell++;
                }
            }
        }

        private void setSteps() {
            Arrays.fill(nextStep, 0);
            for (int cell = 0; cell < cells; cell++) {
                nextStep[time[cell] + 1]++;
            }
            for (int t = 1; t < nextStep.length; t++) {
                nextStep[t] += nextStep[t - 1];
            }
            // Cells are numbered in the order that equal times ask for, so this keeps it among them.
            for (int cell = 0; cell < cells; cell++) {
                int step = nextStep[time[cell]];
                nextStep[time[cell]] = step + 1;
                birth[cell] = step;
                cellAt[step] = cell;
            }
        }

        private void setEnds(Program program) {
            for (int cell = 0; cell < cells; cell++) {
                boolean lasting = program.statements.get(number[cell]).lasting;
                end[cell] = lasting ? cells : birth[cell];
            }
            for (int cell = 0; cell < cells; cell++) {
                ArrayList<Read> reads = program.statements.get(number[cell]).reads;
                for (int i = 0; i < reads.size(); i++) {
                    stretchCellRead(program, cell, reads.get(i));
                }
            }
        }

        private void stretchCellRead(Program program, int reader, Read read) {
            int readRow = row[reader] - read.rowsBack;
            int readColumn = column[reader] - read.columnsBack;
            if (program.hasPoint(readRow, readColumn)) {
                int cell = program.cellOf(read.source, readRow, readColumn);
                end[cell] = Math.max(end[cell], birth[reader]);
            }
        }

        int countLive(int step) {
            int live = 0;
            for (int cell = 0; cell < cells; cell++) {
                if (birth[cell] < step && step <= end[cell]) {
                    live++;
                }
            }
            return live;
        }

        int mostLiveAmong(int firstCell, int afterLast) {
            Arrays.fill(change, 0);
            for (int cell = firstCell; cell < afterLast; cell++) {
                change[birth[cell] + 1]++;
                change[end[cell] + 1]--;
            }
            int live = 0;
            int most = 0;
            for (int step = 0; step < cells; step++) {
                live += change[step];
                most = Math.max(most, live);
            }
            return most;
        }

        boolean inConflict(int one, int other) {
            return isBornWithin(one, other) || isBornWithin(other, one);
        }

        private boolean isBornWithin(int cell, int life) {
            return birth[cell] > birth[life] && birth[cell] < end[life];
        }

        int countConflicts(int cell, int firstCell, int afterLast) {
            int conflicts = 0;
            for (int other = firstCell; other < afterLast; other++) {
                if (inConflict(cell, other)) {
                    conflicts++;
                }
            }
            return conflicts;
        }
    }

    private enum Kind { WHOLE, REST, TWO_RESTS, SLANT }

    private static final class Window {
        private Kind kind = Kind.WHOLE;
        private int modulus = 1;
        private int rowModulus = 1;
        private int columnModulus = 1;
        private int slant = 0;

        void becomeWhole() {
            kind = Kind.WHOLE;
        }

        void becomeRest(int modulus) {
            kind = Kind.REST;
            this.modulus = modulus;
        }

        void becomeTwoRests(int rowModulus, int columnModulus) {
            kind = Kind.TWO_RESTS;
            this.rowModulus = rowModulus;
            this.columnModulus = columnModulus;
        }

        void becomeSlant(int slant, int modulus) {
            kind = Kind.SLANT;
            this.slant = slant;
            this.modulus = modulus;
        }

        void become(Window other) {
            kind = other.kind;
            modulus = other.modulus;
            rowModulus = other.rowModulus;
            columnModulus = other.columnModulus;
            slant = other.slant;
        }

        int places(int points) {
            if (kind == Kind.WHOLE) {
                return points;
            }
            return kind == Kind.TWO_RESTS ? rowModulus * columnModulus : modulus;
        }

        int placeFor(int row, int column, int columns) {
            switch (kind) {
                case REST:
                    return restOf(row * columns + column, modulus);
                case TWO_RESTS:
                    return restOf(row, rowModulus) * columnModulus + restOf(column, columnModulus);
                case SLANT:
                    return restOf(row + column * slant, modulus);
                default:
                    return row * columns + column;
            }
        }

        /** Tells whether cells whose rows and columns differ so lie at different places. */
        boolean keepsApart(int rowDifference, int columnDifference, int columns) {
            switch (kind) {
                case REST:
                    return restOf(rowDifference * columns + columnDifference, modulus) != 0;
                case TWO_RESTS:
                    return restOf(rowDifference, rowModulus) != 0 || restOf(columnDifference, columnModulus) != 0;
                case SLANT:
                    return restOf(rowDifference + columnDifference * slant, modulus) != 0;
                default:
                    return rowDifference != 0 || columnDifference != 0;
            }
        }
    }

    /**
     * By how many rows and columns cells in conflict differ. Whether two cells share a place hangs on this difference
     * alone in every kind of window, and there are far fewer differences than pairs.
     */
    private static final class Differences {
        private final boolean[] known = new boolean[SIDE_DIFFERENCES * SIDE_DIFFERENCES];
        private final int[] rowDifference = new int[SIDE_DIFFERENCES * SIDE_DIFFERENCES];
        private final int[] columnDifference = new int[SIDE_DIFFERENCES * SIDE_DIFFERENCES];
        private final boolean[] inLine = new boolean[MOST_POINTS];
        private int count = 0;
        private int rows = FIRST_SIDE;
        private int columns = FIRST_SIDE;

        void clear(Program program) {
            for (int i = 0; i < known.length; i++) {
                known[i] = false;
            }
            count = 0;
            rows = program.rows;
            columns = program.columns;
        }

        void add(Program program, Work work, int one, int other) {
            int afterLast = program.firstCell(other + 1);
            for (int a = program.firstCell(one); a < program.firstCell(one + 1); a++) {
                int first = one == other ? a + 1 : program.firstCell(other);
                for (int b = first; b < afterLast; b++) {
                    if (work.inConflict(a, b)) {
                        addOne(work.row[b] - work.row[a], work.column[b] - work.column[a]);
                    }
                }
            }
        }

        private void addOne(int rowsApart, int columnsApart) {
            int index = (rowsApart + MOST_SIDE - 1) * SIDE_DIFFERENCES + columnsApart + MOST_SIDE - 1;
            if (known[index]) {
                return;
            }
            known[index] = true;
            rowDifference[count] = rowsApart;
            columnDifference[count] = columnsApart;
            count++;
        }

        boolean areKeptApart(Window window) {
            for (int i = 0; i < count; i++) {
                if (!window.keepsApart(rowDifference[i], columnDifference[i], columns)) {
                    return false;
                }
            }
            return true;
        }

        /** Leaves the least right rest window in the window and returns its modulus, or NONE. */
        int leastRestModulus(Window window) {
            for (int modulus = 1; modulus <= MOST_MODULUS; modulus++) {
                window.becomeRest(modulus);
                if (areKeptApart(window)) {
                    return modulus;
                }
            }
            return NONE;
        }

        int leastModulusDividingNone() {
            for (int i = 0; i < inLine.length; i++) {
                inLine[i] = false;
            }
            for (int i = 0; i < count; i++) {
                inLine[Math.abs(rowDifference[i] * columns + columnDifference[i])] = true;
            }
            int modulus = 1;
            while (modulus < inLine.length && dividesOne(modulus)) {
                modulus++;
            }
            return modulus;
        }

        private boolean dividesOne(int modulus) {
            for (int difference = modulus; difference < inLine.length; difference += modulus) {
                if (inLine[difference]) {
                    return true;
                }
            }
            return false;
        }

        /** Moduli as large as the field keep all cells apart, so the search starts from them. */
        void findTwoRests(Window window) {
            int bestRow = rows;
            int bestColumn = columns;
            for (int row = 1; row <= rows; row++) {
                for (int column = 1; column <= columns; column++) {
                    window.becomeTwoRests(row, column);
                    if (row * column < bestRow * bestColumn && areKeptApart(window)) {
                        bestRow = row;
                        bestColumn = column;
                    }
                }
            }
            window.becomeTwoRests(bestRow, bestColumn);
        }

        /** A slant of the rows, modulo all points, keeps all cells apart, so the search ends there at the latest. */
        void findSlant(Window window) {
            for (int modulus = 1; modulus <= rows * columns; modulus++) {
                for (int slant = 0; slant <= MOST_SLANT; slant++) {
                    window.becomeSlant(slant, modulus);
                    if (areKeptApart(window)) {
                        return;
                    }
                }
            }
        }
    }

    /** Does the steps and keeps the values, in the windows or, uncontracted, each cell at its place in line. */
    private static final class Machine {
        private final boolean contracted;
        private final int[][] kept;

        Machine(boolean contracted) {
            this.contracted = contracted;
            kept = new int[MOST_STATEMENTS][contracted ? REACHED_PLACES : MOST_POINTS];
        }

        void empty() {
            for (int statement = 0; statement < kept.length; statement++) {
                Arrays.fill(kept[statement], 0);
            }
        }

        int doStep(Program program, Work work, int cell) {
            int number = work.number[cell];
            int row = work.row[cell];
            int column = work.column[cell];
            Statement statement = program.statements.get(number);
            int sum = statement.addend;
            for (int i = 0; i < statement.reads.size(); i++) {
                Read read = statement.reads.get(i);
                sum += read.factor * taken(program, read.source, row - read.rowsBack, column - read.columnsBack);
            }
            int value = sum % VALUE_MODULUS;
            kept[number][placeIn(program, number, row, column)] = value;
            return value;
        }

        private int taken(Program program, int source, int row, int column) {
            if (!program.hasPoint(row, column)) {
                int border = BORDER_ROW_FACTOR * row + BORDER_COLUMN_FACTOR * column + source;
                return Math.floorMod(border, BORDER_MODULUS);
            }
            return kept[source][placeIn(program, source, row, column)];
        }

        private int placeIn(Program program, int statement, int row, int column) {
            if (!contracted) {
                return row * program.columns + column;
            }
            return program.statements.get(statement).window.placeFor(row, column, program.columns);
        }
    }

    /** The best of the schedules offered so far; of equally good ones the first. */
    private static final class Best {
        private boolean found = false;
        private int rowWeight = 0;
        private int columnWeight = 0;
        private int room = 0;

        void offer(int rowWeight, int columnWeight, int room) {
            if (!found || room < this.room) {
                found = true;
                this.rowWeight = rowWeight;
                this.columnWeight = columnWeight;
                this.room = room;
            }
        }
    }
}
