/** Promises 7 to 15: the order of work. */
public final class OrderTests {
    /** Two statements on two rows of three points; the second one reads the first one. */
    private static CellWindows pair() {
        CellWindows x = new CellWindows();
        x.setField(2, 3);
        x.addStatement(1);
        x.addStatement(2);
        x.addRead(1, 0, 1, 0, 0);
        return x;
    }

    private static void promise7SetSchedule() {
        CellWindows x = pair();
        x.addRead(1, 1, 1, 1, -2);
        Check.due(x, "setSchedule", true, 3, 1);
        Check.due(x, "stepOf", 1, 1, 0, 0);
        Check.due(x, "stepOf", 6, 0, 1, 0);
        // at equal times the upper row comes first, so 2 to 1 still stands and 1 to 1 does not
        Check.due(x, "setSchedule", true, 2, 1);
        Check.due(x, "setSchedule", false, 1, 1);
        Check.due(x, "isAllowed", false);
        Check.due(x, "setSchedule", true, 0, 0);
        Check.due(x, "setSchedule", true, 9, 0);
        Check.due(x, "setSchedule", false, 0, 9);
        Check.due(x, "stepOf", 2, 1, 0, 0);
        Check.throwsAndChangesNothing(x, "IllegalArgumentException",
            Check.call("setSchedule", -1, 0), Check.call("setSchedule", 10, 0), Check.call("setSchedule", 0, -1),
            Check.call("setSchedule", 0, 10), Check.call("setSchedule", 1, 10), Check.call("setSchedule", 10, 1));
    }

    private static void promise8SetOffset() {
        CellWindows x = pair();
        Check.due(x, "setOffset", false, 0, 1);
        Check.due(x, "isAllowed", false);
        Check.due(x, "setOffset", true, 1, 1);
        Check.due(x, "setOffset", true, 1, 30);
        Check.due(x, "stepOf", 6, 1, 0, 0);
        Check.due(x, "setOffset", true, 0, 30);
        Check.due(x, "setOffset", false, 1, 29);
        Check.due(x, "setOffset", false, 1, 0);
        Check.due(x, "stepOf", 0, 1, 0, 0);
    }

    private static void promise8WrongOffsets() {
        CellWindows x = pair();
        x.setOffset(0, 1);
        Check.throwsAndChangesNothing(x, "IllegalArgumentException",
            Check.call("setOffset", 0, -1), Check.call("setOffset", 0, 31), Check.call("setOffset", 1, 31));
        Check.throwsAndChangesNothing(x, "IndexOutOfBoundsException",
            Check.call("setOffset", -1, 0), Check.call("setOffset", 2, 0), Check.call("setOffset", 2, 31));
    }

    private static void promise9IsAllowed() {
        CellWindows x = pair();
        Check.due(x, "isAllowed", true);
        x.addRead(0, 0, 1, 0, -1);
        Check.due(x, "isAllowed", false);
        x.dropReads(0);
        Check.due(x, "isAllowed", true);
        x.addRead(0, 1, 1, 0, 0);
        Check.due(x, "isAllowed", false);
        x.dropReads(0);
        // a cell that reads itself reads what is not yet written
        x.addRead(0, 0, 1, 0, 0);
        Check.due(x, "isAllowed", false);
        x.dropReads(0);
        // these points lie outside for every cell
        x.addRead(0, 1, 1, 0, -3);
        x.addRead(0, 1, 1, 0, 3);
        x.addRead(0, 1, 1, 2, 0);
        x.setOffset(1, 30);
        Check.due(x, "isAllowed", true);
        x.setField(2, 4);
        Check.due(x, "isAllowed", false);
    }

    private static void promise10IsAllowedWith() {
        CellWindows x = pair();
        x.addRead(0, 0, 1, 1, -1);
        Check.due(x, "isAllowedWith", true, 1, 1);
        Check.due(x, "isAllowedWith", false, 1, 2);
        Check.due(x, "isAllowedWith", true, 2, 1);
        Check.due(x, "isAllowedWith", true, 0, 0);
        Check.due(x, "isAllowedWith", true, 9, 9);
        Check.due(x, "stepOf", 9, 1, 1, 0);
        x.setOffset(0, 1);
        Check.due(x, "isAllowedWith", false, 1, 1);
        Check.throwsAndChangesNothing(x, "IllegalArgumentException",
            Check.call("isAllowedWith", -1, 0), Check.call("isAllowedWith", 10, 0),
            Check.call("isAllowedWith", 0, -1), Check.call("isAllowedWith", 0, 10));
    }

    private static void promise11IsReadInOrder() {
        CellWindows x = pair();
        x.addRead(1, 0, 1, 0, -1);
        x.addRead(1, 1, 1, 0, -1);
        x.addRead(1, 1, 1, 0, -3);
        Check.due(x, "isReadInOrder", true, 1, 0);
        Check.due(x, "isReadInOrder", true, 1, 1);
        Check.due(x, "isReadInOrder", false, 1, 2);
        Check.due(x, "isReadInOrder", true, 1, 3);
        x.setSchedule(1, 1);
        Check.due(x, "isReadInOrder", true, 1, 0);
        Check.due(x, "isReadInOrder", false, 1, 1);
        x.setOffset(1, 1);
        Check.due(x, "isReadInOrder", true, 1, 1);
        x.setField(2, 1);
        Check.due(x, "isReadInOrder", true, 1, 2);
        x.addRead(0, 0, 1, 0, 0);
        Check.due(x, "isReadInOrder", false, 0, 0);
        Check.throwsAndChangesNothing(x, "IndexOutOfBoundsException",
            Check.call("isReadInOrder", 1, 4), Check.call("isReadInOrder", 1, -1),
            Check.call("isReadInOrder", 0, 1), Check.call("isReadInOrder", 2, 0),
            Check.call("isReadInOrder", -1, 0));
    }

    private static void promise12Steps() {
        CellWindows x = pair();
        Check.due(x, "steps", 12);
        x.addStatement(0);
        x.addStatement(0);
        x.setField(8, 8);
        Check.due(x, "steps", 256);
    }

    private static void promise13StepOf() {
        CellWindows x = pair();
        int[] first = {0, 1, 2, 6, 7, 8};
        int[] diagonal = {0, 2, 6, 3, 7, 10};
        int[] unweighed = {0, 1, 2, 3, 4, 5};
        steps(x, 0, first);
        x.setSchedule(1, 1);
        // times 0 1 2 and 1 2 3; at each time the first statement, and its upper row, comes first
        steps(x, 0, diagonal);
        x.setSchedule(0, 0);
        steps(x, 0, unweighed);
        steps(x, 1, new int[] {6, 7, 8, 9, 10, 11});
        x.setOffset(0, 1);
        steps(x, 1, unweighed);
        x.setOffset(0, 0);
        x.setSchedule(0, 2);
        steps(x, 0, new int[] {0, 4, 8, 1, 5, 9});
        x.setSchedule(9, 9);
        x.setOffset(1, 30);
        // the second statement begins at time 30, after the last time of the first one, 27
        steps(x, 1, new int[] {6, 7, 9, 8, 10, 11});
        pointsAsked(x, "stepOf");
        largestTimes();
    }

    private static void largestTimes() {
        CellWindows x = new CellWindows();
        x.setField(8, 8);
        for (int statement = 0; statement < 4; statement++) {
            x.addStatement(statement);
            x.setOffset(statement, 30);
        }
        x.setSchedule(9, 9);
        Check.due(x, "stepOf", 252, 0, 7, 7);
        Check.due(x, "stepOf", 255, 3, 7, 7);
        // the time before holds two cells of each statement
        Check.due(x, "stepOf", 251, 3, 7, 6);
        Check.due(x, "stepOf", 250, 3, 6, 7);
        Check.due(x, "stepOf", 244, 0, 6, 7);
    }

    private static void steps(CellWindows x, int statement, int[] want) {
        for (int line = 0; line < want.length; line++) {
            Check.due(x, "stepOf", want[line], statement, line / 3, line % 3);
        }
    }

    private static void pointsAsked(CellWindows x, String call) {
        Check.throwsAndChangesNothing(x, "IndexOutOfBoundsException",
            Check.call(call, -1, 0, 0), Check.call(call, 2, 0, 0), Check.call(call, 0, -1, 0),
            Check.call(call, 0, 2, 0), Check.call(call, 0, 0, -1), Check.call(call, 0, 0, 3));
    }

    private static void promise14And15StatementAndPointAt() {
        CellWindows x = pair();
        x.setSchedule(1, 1);
        int[] statements = {0, 1, 0, 0, 1, 1, 0, 0, 1, 1, 0, 1};
        int[] points = {0, 0, 1, 3, 1, 3, 2, 4, 2, 4, 5, 5};
        for (int step = 0; step < 12; step++) {
            Check.due(x, "statementAt", statements[step], step);
            Check.due(x, "pointAt", points[step], step);
        }
        x.setSchedule(0, 1);
        Check.due(x, "pointAt", 3, 1);
        x.setOffset(0, 30);
        Check.due(x, "statementAt", 1, 0);
        Check.throwsAndChangesNothing(x, "IndexOutOfBoundsException",
            Check.call("statementAt", -1), Check.call("statementAt", 12), Check.call("pointAt", -1),
            Check.call("pointAt", 12), Check.call("pointAt", Integer.MAX_VALUE));
    }

    public static void main(String[] arguments) {
        promise7SetSchedule();
        promise8SetOffset();
        promise8WrongOffsets();
        promise9IsAllowed();
        promise10IsAllowedWith();
        promise11IsReadInOrder();
        promise12Steps();
        promise13StepOf();
        promise14And15StatementAndPointAt();
        Check.finish();
    }
}
