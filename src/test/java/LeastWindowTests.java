import java.util.function.Supplier;

/** Promises 31 to 37: the least windows. */
public final class LeastWindowTests {
    private static final String[] ALL = {
        "leastRest", "leastRestByDifferences", "leastRowRest", "leastColumnRest", "leastSlantModulus", "leastSlant"
    };

    /** Each call is the first one on a new object, so none lives on what another one found. */
    private static void least(Supplier<CellWindows> made, int statement, int... want) {
        for (int i = 0; i < ALL.length; i++) {
            Check.due(made.get(), ALL[i], want[i], statement);
        }
    }

    private static CellWindows field(int rows, int columns) {
        CellWindows x = new CellWindows();
        x.setField(rows, columns);
        x.addStatement(1);
        return x;
    }

    private static CellWindows reading(int rows, int columns, int rowsBack, int columnsBack) {
        CellWindows x = field(rows, columns);
        x.addRead(0, 0, 1, rowsBack, columnsBack);
        return x;
    }

    private static CellWindows lasting(int rows, int columns) {
        CellWindows x = field(rows, columns);
        x.setLasting(0, true);
        return x;
    }

    private static void withoutConflicts() {
        least(() -> field(4, 4), 0, 1, 1, 1, 1, 1, 0);
        least(() -> reading(4, 4, 0, 1), 0, 1, 1, 1, 1, 1, 0);
        least(() -> lasting(1, 1), 0, 1, 1, 1, 1, 1, 0);
    }

    /** The first cell lives on while the cells beside and below it are born: 1 and 2 apart in line. */
    private static void twoConflicts() {
        least(() -> reading(2, 2, 1, 1), 0, 3, 3, 2, 2, 2, 1);
    }

    private static void allInConflict() {
        least(() -> lasting(8, 8), 0, 64, 64, 8, 8, 64, 8);
        least(() -> lasting(2, 3), 0, 6, 6, 2, 3, 6, 2);
        least(() -> lasting(1, 8), 0, 8, 8, 1, 8, 8, 1);
        least(() -> lasting(8, 1), 0, 8, 8, 8, 1, 8, 0);
        least(() -> lasting(7, 8), 0, 56, 56, 7, 8, 56, 7);
    }

    /** Column by column on 3 by 3: cells in conflict lie 2, 3, 5 and 6 apart in line, 1 or 2 in rows. */
    private static void columnByColumn() {
        least(() -> {
            CellWindows x = reading(3, 3, 0, 1);
            x.setSchedule(0, 1);
            return x;
        }, 0, 4, 4, 3, 1, 3, 0);
    }

    /** Along the diagonals: cells in conflict lie one column apart, or one column and one row. */
    private static void alongDiagonals() {
        least(() -> {
            CellWindows x = reading(2, 3, 1, 0);
            x.setSchedule(1, 1);
            return x;
        }, 0, 3, 3, 1, 2, 3, 2);
    }

    /** Cells live for two rows: ten places in line, and eleven for a slant, the largest that there is. */
    private static void largestSlant() {
        least(() -> reading(3, 5, 2, 0), 0, 10, 10, 2, 5, 11, 9);
    }

    /** One conflict, of the cell on the right and the cell below: two rests of 1 and 2, or of 2 and 1. */
    private static CellWindows cornerToCorner() {
        CellWindows x = field(2, 2);
        x.addStatement(1);
        x.addRead(1, 0, 1, 0, -1);
        x.setSchedule(1, 1);
        x.setOffset(1, 1);
        return x;
    }

    private static void equallyFewPlaces() {
        CellWindows x = cornerToCorner();
        Check.due(x, "conflictPairs", 1, 0);
        x.keepTwoRests(0, 2, 1);
        Check.due(x, "isRight", true, 0);
        least(() -> cornerToCorner(), 0, 2, 2, 1, 2, 2, 0);
        least(() -> cornerToCorner(), 1, 1, 1, 1, 1, 1, 0);
    }

    private static void wrongStatements() {
        for (String call : ALL) {
            Check.refused(() -> reading(2, 2, 1, 1), "IndexOutOfBoundsException",
                Check.call(call, -1), Check.call(call, 1));
        }
    }

    private static void windowsStay() {
        CellWindows x = reading(2, 2, 1, 1);
        x.keepSlant(0, 3, 7);
        String before = Check.allAnswers(x);
        least(() -> x, 0, 3, 3, 2, 2, 2, 1);
        x.leastJointRest(0, 0);
        Check.same("all answers after the searches", Check.allAnswers(x), before);
    }

    /** Cells of the first statement live until the next one; only cells of the second one are born in between. */
    private static CellWindows jointPair(int offset, boolean lasting) {
        CellWindows x = reading(1, 4, 0, 1);
        x.addStatement(1);
        x.setSchedule(0, 1);
        x.setOffset(1, offset);
        x.setLasting(1, lasting);
        return x;
    }

    private static void promise37LeastJointRest() {
        Check.due(jointPair(1, false), "leastRest", 1, 0);
        Check.due(jointPair(1, false), "leastRest", 1, 1);
        Check.due(jointPair(1, false), "leastJointRest", 2, 0, 1);
        Check.due(jointPair(1, false), "leastJointRest", 2, 1, 0);
        Check.due(jointPair(1, true), "leastRest", 4, 1);
        Check.due(jointPair(1, true), "leastJointRest", 4, 0, 1);
        Check.due(jointPair(1, true), "leastJointRest", 4, 1, 0);
        Check.due(jointPair(1, true), "leastJointRest", 1, 0, 0);
        Check.due(jointPair(1, true), "leastJointRest", 4, 1, 1);
        // when all of the first statement is over, only the second one's own conflicts count
        Check.due(jointPair(30, true), "leastJointRest", 4, 0, 1);
        Check.due(jointPair(30, true), "leastJointRest", 4, 1, 0);
        Check.due(jointPair(30, false), "leastJointRest", 1, 0, 1);
        // at equal offsets the cells of one point are in conflict
        Check.due(jointPair(0, false), "leastJointRest", -1, 0, 1);
        Check.due(jointPair(0, false), "leastJointRest", -1, 1, 0);
        Check.due(jointPair(0, false), "leastJointRest", 1, 1, 1);
        Check.throwsAndChangesNothing(jointPair(0, false), "IndexOutOfBoundsException",
            Check.call("leastJointRest", -1, 0), Check.call("leastJointRest", 2, 0),
            Check.call("leastJointRest", 0, -1), Check.call("leastJointRest", 0, 2),
            Check.call("leastJointRest", 2, 2));
    }

    /** Together the two statements need more than either of them alone. */
    private static void jointNeedsMoreThanEither() {
        CellWindows x = reading(1, 6, 0, 2);
        x.addStatement(1);
        x.setSchedule(0, 1);
        x.setOffset(1, 1);
        // the first one's cells meet their next one, and the second one's at the point before and at their own
        Check.due(x, "leastRest", 2, 0);
        Check.due(x, "leastJointRest", -1, 0, 1);
        x.setOffset(1, 2);
        // then the second one's at the two points before
        Check.due(x, "leastRest", 2, 0);
        Check.due(x, "leastRest", 1, 1);
        Check.due(x, "leastJointRest", 3, 0, 1);
    }

    public static void main(String[] arguments) {
        withoutConflicts();
        twoConflicts();
        allInConflict();
        columnByColumn();
        alongDiagonals();
        largestSlant();
        equallyFewPlaces();
        wrongStatements();
        windowsStay();
        promise37LeastJointRest();
        jointNeedsMoreThanEither();
        Check.finish();
    }
}
