/** Promises 31 to 37: the least windows. */
public final class LeastWindowTests {
    private static final String[] ALL = {
        "leastRest", "leastRestByDifferences", "leastRowRest", "leastColumnRest", "leastSlantModulus", "leastSlant"
    };

    private static void least(CellWindows x, int statement, int... want) {
        for (int i = 0; i < ALL.length; i++) {
            Check.due(x, ALL[i], want[i], statement);
        }
    }

    private static void withoutConflicts() {
        CellWindows x = new CellWindows();
        x.addStatement(1);
        least(x, 0, 1, 1, 1, 1, 1, 0);
        x.addRead(0, 0, 1, 0, 1);
        least(x, 0, 1, 1, 1, 1, 1, 0);
        x.setField(1, 1);
        x.setLasting(0, true);
        least(x, 0, 1, 1, 1, 1, 1, 0);
    }

    /** The first cell lives on while the cells beside and below it are born: 1 and 2 apart in line. */
    private static void twoConflicts() {
        CellWindows x = new CellWindows();
        x.setField(2, 2);
        x.addStatement(1);
        x.addRead(0, 0, 1, 1, 1);
        least(x, 0, 3, 3, 2, 2, 2, 1);
    }

    private static void allInConflict() {
        CellWindows x = new CellWindows();
        x.addStatement(1);
        x.setLasting(0, true);
        x.setField(8, 8);
        least(x, 0, 64, 64, 8, 8, 64, 8);
        x.setField(2, 3);
        least(x, 0, 6, 6, 2, 3, 6, 2);
        x.setField(1, 8);
        least(x, 0, 8, 8, 1, 8, 8, 1);
        x.setField(8, 1);
        least(x, 0, 8, 8, 8, 1, 8, 0);
        x.setField(7, 8);
        least(x, 0, 56, 56, 7, 8, 56, 7);
    }

    /** Column by column on 3 by 3: cells in conflict lie 2, 3, 5 and 6 apart in line, 1 or 2 in rows. */
    private static void columnByColumn() {
        CellWindows x = new CellWindows();
        x.setField(3, 3);
        x.addStatement(1);
        x.addRead(0, 0, 1, 0, 1);
        x.setSchedule(0, 1);
        least(x, 0, 4, 4, 3, 1, 3, 0);
    }

    /** One conflict, of the cell on the right and the cell below: two rests of 1 and 2, or of 2 and 1. */
    private static void equallyFewPlaces() {
        CellWindows x = new CellWindows();
        x.setField(2, 2);
        x.addStatement(1);
        x.addStatement(1);
        x.addRead(1, 0, 1, 0, -1);
        x.setSchedule(1, 1);
        x.setOffset(1, 1);
        Check.due(x, "conflictPairs", 1, 0);
        x.keepTwoRests(0, 2, 1);
        Check.due(x, "isRight", true, 0);
        least(x, 0, 2, 2, 1, 2, 2, 0);
        least(x, 1, 1, 1, 1, 1, 1, 0);
    }

    private static void wrongStatements() {
        CellWindows x = new CellWindows();
        x.setField(1, 2);
        x.addStatement(1);
        x.addStatement(1);
        for (String call : ALL) {
            Check.throwsAndChangesNothing(x, "IndexOutOfBoundsException", Check.call(call, -1), Check.call(call, 2));
        }
    }

    private static void windowsStay() {
        CellWindows x = new CellWindows();
        x.setField(2, 2);
        x.addStatement(1);
        x.addRead(0, 0, 1, 1, 1);
        x.keepSlant(0, 3, 7);
        String before = Check.allAnswers(x);
        least(x, 0, 3, 3, 2, 2, 2, 1);
        x.leastJointRest(0, 0);
        Check.same("all answers after the searches", Check.allAnswers(x), before);
    }

    /** Cells of the first statement live until the next one; only cells of the second one are born in between. */
    private static CellWindows jointPair(int offset) {
        CellWindows x = new CellWindows();
        x.setField(1, 4);
        x.addStatement(1);
        x.addStatement(1);
        x.addRead(0, 0, 1, 0, 1);
        x.setSchedule(0, 1);
        x.setOffset(1, offset);
        return x;
    }

    private static void promise37LeastJointRest() {
        CellWindows x = jointPair(1);
        Check.due(x, "leastRest", 1, 0);
        Check.due(x, "leastRest", 1, 1);
        Check.due(x, "leastJointRest", 2, 0, 1);
        Check.due(x, "leastJointRest", 2, 1, 0);
        x.setLasting(1, true);
        Check.due(x, "leastRest", 4, 1);
        Check.due(x, "leastJointRest", 4, 0, 1);
        Check.due(x, "leastJointRest", 4, 1, 0);
        Check.due(x, "leastJointRest", 1, 0, 0);
        Check.due(x, "leastJointRest", 4, 1, 1);
        CellWindows same = jointPair(0);
        // at equal offsets the cells of one point are in conflict
        Check.due(same, "leastJointRest", -1, 0, 1);
        Check.due(same, "leastJointRest", -1, 1, 0);
        Check.due(same, "leastJointRest", 1, 1, 1);
        Check.throwsAndChangesNothing(same, "IndexOutOfBoundsException",
            Check.call("leastJointRest", -1, 0), Check.call("leastJointRest", 2, 0),
            Check.call("leastJointRest", 0, -1), Check.call("leastJointRest", 0, 2),
            Check.call("leastJointRest", 2, 2));
    }

    /** The cross differences alone are 1 and 2: 3 places, though each statement alone needs fewer. */
    private static void jointNeedsMoreThanEither() {
        CellWindows x = new CellWindows();
        x.setField(1, 6);
        x.addStatement(1);
        x.addStatement(1);
        x.addRead(0, 0, 1, 0, 2);
        x.setSchedule(0, 1);
        x.setOffset(1, 1);
        // by line: the first one's 1 apart, and to the second one's 1 before and the same point
        Check.due(x, "leastRest", 2, 0);
        Check.due(x, "leastJointRest", -1, 0, 1);
        x.setOffset(1, 2);
        // then 1 and 2 before
        Check.due(x, "leastRest", 2, 0);
        Check.due(x, "leastRest", 1, 1);
        Check.due(x, "leastJointRest", 3, 0, 1);
    }

    public static void main(String[] arguments) {
        withoutConflicts();
        twoConflicts();
        allInConflict();
        columnByColumn();
        equallyFewPlaces();
        wrongStatements();
        windowsStay();
        promise37LeastJointRest();
        jointNeedsMoreThanEither();
        Check.finish();
    }
}
