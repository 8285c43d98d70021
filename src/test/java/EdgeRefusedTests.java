import java.util.function.Supplier;

/** Refused calls: which exception comes first, what is not there, and that a call that throws has changed nothing. */
public final class EdgeRefusedTests {
    private static final String NO_INDEX = "IndexOutOfBoundsException";
    private static final String WRONG_NUMBER = "IllegalArgumentException";
    private static final String NOT_NOW = "IllegalStateException";

    /** Stands for the statement, row, column, read or step that is not there. */
    private static final String TRIED = "tried";

    private static final String NO_STATEMENT = "if there is no such statement";
    private static final String NO_SOURCE = "or no such source";
    private static final String NO_ONE = "if there is no statement one";
    private static final String NO_OTHER = "or no statement other";

    /** Promise, words and call. */
    private static final Object[][] ASKING_FOR_STATEMENT = {
        {"3", NO_STATEMENT, "addRead", TRIED, 0, 1, 0, 0}, {"3", NO_SOURCE, "addRead", 0, TRIED, 1, 0, 0},
        {"4", NO_STATEMENT, "dropReads", TRIED}, {"5", NO_STATEMENT, "setLasting", TRIED, true},
        {"5", NO_STATEMENT, "setLasting", TRIED, false}, {"8", NO_STATEMENT, "setOffset", TRIED, 9},
        {"11", NO_STATEMENT, "isReadInOrder", TRIED, 0}, {"13", NO_STATEMENT, "stepOf", TRIED, 0, 0},
        {"16", NO_STATEMENT, "endOf", TRIED, 0, 0}, {"19", NO_STATEMENT, "mostLiveOf", TRIED},
        {"20", NO_STATEMENT, "conflictsOf", TRIED, 0, 0, 0}, {"20", NO_OTHER, "conflictsOf", 0, 0, 0, TRIED},
        {"21", NO_STATEMENT, "conflictPairs", TRIED}, {"22", NO_STATEMENT, "keepWhole", TRIED},
        {"23", NO_STATEMENT, "keepRest", TRIED, 9}, {"24", NO_STATEMENT, "keepTwoRests", TRIED, 9, 9},
        {"25", NO_STATEMENT, "keepSlant", TRIED, 9, 9}, {"27", NO_STATEMENT, "windowSize", TRIED},
        {"29", NO_STATEMENT, "placeOf", TRIED, 0, 0}, {"30", NO_STATEMENT, "isRight", TRIED},
        {"31", NO_STATEMENT, "leastRest", TRIED}, {"32", NO_STATEMENT, "leastRestByDifferences", TRIED},
        {"33", NO_STATEMENT, "leastRowRest", TRIED}, {"34", NO_STATEMENT, "leastColumnRest", TRIED},
        {"35", NO_STATEMENT, "leastSlantModulus", TRIED}, {"36", NO_STATEMENT, "leastSlant", TRIED},
        {"37", NO_ONE, "leastJointRest", TRIED, 0}, {"37", NO_OTHER, "leastJointRest", 0, TRIED},
        {"37", NO_ONE, "leastJointRest", TRIED, TRIED}, {"38", NO_STATEMENT, "valueOf", TRIED, 0, 0},
        {"39", NO_STATEMENT, "contractedValueOf", TRIED, 0, 0},
    };

    private static final Object[][] ASKING_FOR_POINT = {
        {"13", "stepOf", 1}, {"16", "endOf", 1}, {"20", "conflictsOf", 1}, {"29", "placeOf", 1}, {"38", "valueOf", 1},
        {"39", "contractedValueOf", 1},
    };

    private static final Object[][] ASKING_FOR_STEP = {{"14", "statementAt"}, {"15", "pointAt"}, {"17", "liveAt"}};

    /** Calls of a telling object, and of a full one, whose earlier arguments alone could already be put to use. */
    private static final Object[][] WRONG_NUMBERS = {
        {"2", "addStatement", 100}, {"2", "addStatement", -1},
        {"3", "addRead", 0, 1, 0, 1, 1}, {"3", "addRead", 0, 1, 10, 1, 1}, {"3", "addRead", 0, 1, 5, -1, 1},
        {"3", "addRead", 0, 1, 5, 4, 1}, {"3", "addRead", 0, 1, 5, 1, -4}, {"3", "addRead", 0, 1, 5, 1, 4},
        {"6", "setField", 5, 0}, {"6", "setField", 5, 9}, {"6", "setField", 0, 5}, {"6", "setField", 9, 5},
        {"6", "setField", 1, 9}, {"6", "setField", 9, 1}, {"6", "setField", 9, 9}, {"6", "setField", 0, 0},
        {"6", "setField", -2, -3}, {"7", "setSchedule", 0, 10}, {"7", "setSchedule", 10, 0},
        {"7", "setSchedule", 9, -1}, {"7", "setSchedule", -1, 9}, {"7", "setSchedule", 10, 10},
        {"8", "setOffset", 0, 31}, {"8", "setOffset", 1, 31}, {"8", "setOffset", 0, -1},
        {"10", "isAllowedWith", 9, 10}, {"10", "isAllowedWith", 10, 9}, {"10", "isAllowedWith", -1, 0},
        {"10", "isAllowedWith", 0, -1}, {"23", "keepRest", 0, 0}, {"23", "keepRest", 0, 100},
        {"24", "keepTwoRests", 0, 5, 0}, {"24", "keepTwoRests", 0, 5, 100}, {"24", "keepTwoRests", 1, 0, 5},
        {"24", "keepTwoRests", 1, 100, 5}, {"24", "keepTwoRests", 1, -3, -5}, {"24", "keepTwoRests", 1, 0, 0},
        {"25", "keepSlant", 1, 5, 0}, {"25", "keepSlant", 1, 5, 100}, {"25", "keepSlant", 0, -1, 5},
        {"25", "keepSlant", 0, 10, 5}, {"25", "keepSlant", 0, 10, 100},
    };

    /** Changes of a telling object, one by one. */
    private static final Object[][] CHANGES = {
        {"addStatement", 0}, {"addRead", 0, 0, 1, 0, 0}, {"addRead", 1, 0, 1, 3, 3}, {"dropReads", 0},
        {"dropReads", 1}, {"setLasting", 0, false}, {"setLasting", 1, true}, {"setField", 2, 4}, {"setField", 3, 3},
        {"setField", 3, 2}, {"setSchedule", 2, 0}, {"setSchedule", 2, 9}, {"setSchedule", 0, 1},
        {"setSchedule", 9, 1}, {"setSchedule", 1, 2}, {"setOffset", 0, 0}, {"setOffset", 0, 30}, {"setOffset", 1, 0},
        {"setOffset", 1, 30}, {"keepWhole", 0}, {"keepWhole", 1}, {"keepRest", 0, 4}, {"keepRest", 1, 3},
        {"keepTwoRests", 0, 1, 4}, {"keepTwoRests", 0, 4, 1}, {"keepTwoRests", 1, 3, 1}, {"keepSlant", 0, 2, 4},
        {"keepSlant", 1, 2, 3}, {"keepSlant", 1, 1, 4}, {"contract"},
    };

    private static Object[] call(Object[] row, Object... tried) {
        Object[] made = new Object[row.length - 1];
        for (int i = 0; i < made.length; i++) {
            made[i] = TRIED.equals(row[i + 1]) ? tried[0] : row[i + 1];
        }
        return made;
    }

    private static Object[] joined(Object[] row, Object... more) {
        Object[] all = java.util.Arrays.copyOf(row, row.length + more.length);
        System.arraycopy(more, 0, all, row.length, more.length);
        return all;
    }

    /** What all the other tests of this file stand on. */
    private static void everyChangeShows() {
        String unchanged = Check.allAnswers(Made.telling());
        for (Object[] change : CHANGES) {
            CellWindows x = Made.telling();
            Check.answer(x, (String) change[0], Check.arguments(change));
            Check.same(change[0] + Check.shown(Check.arguments(change)) + " shows",
                String.valueOf(!Check.allAnswers(x).equals(unchanged)), "true");
        }
    }

    private static void noSuchStatement(Object... row) {
        for (int statement : new int[] {-1, 2, 3, 4, Integer.MIN_VALUE, Integer.MAX_VALUE}) {
            Check.refused(Made::telling, NO_INDEX, call(row, statement));
        }
        for (int statement : new int[] {-1, 4}) {
            Check.refused(Made::full, NO_INDEX, call(row, statement));
        }
        // the last statement is there
        Check.taken(Made.telling(), call(row, 1));
    }

    private static void noSuchPoint(Object[] row) {
        // 1431655766 rows of three points are 2 modulo 2 to the 32nd
        int[][] points = {
            {-1, 0}, {2, 0}, {0, -1}, {0, 3}, {1, -1}, {1, 3}, {-1, 3}, {2, -1}, {2, 3}, {-1, -1}, {8, 0}, {0, 8},
            {Integer.MIN_VALUE, 0}, {Integer.MAX_VALUE, 0}, {0, Integer.MIN_VALUE}, {0, Integer.MAX_VALUE},
            {1431655766, 0}, {Integer.MIN_VALUE, Integer.MIN_VALUE}, {Integer.MAX_VALUE, Integer.MAX_VALUE},
        };
        for (int[] point : points) {
            Check.refused(Made::telling, NO_INDEX, atPoint(row, point[0], point[1]));
        }
        Supplier<CellWindows> turned = () -> {
            CellWindows x = Made.telling();
            x.setField(3, 2);
            return x;
        };
        Check.refused(turned, NO_INDEX, atPoint(row, 0, 2), atPoint(row, 3, 0));
        for (int[] corner : new int[][] {{0, 0}, {0, 1}, {2, 0}, {2, 1}}) {
            Check.taken(turned.get(), atPoint(row, corner[0], corner[1]));
        }
    }

    private static Object[] atPoint(Object[] row, int pointRow, int column) {
        Object[] made = joined(row, pointRow, column);
        return call(row[1].equals("conflictsOf") ? joined(made, 0) : made);
    }

    private static void noSuchStep(Object[] row) {
        for (int step : new int[] {-1, 12, 13, 255, 256, Integer.MIN_VALUE, Integer.MAX_VALUE}) {
            Check.refused(Made::telling, NO_INDEX, call(joined(row, step)));
        }
        CellWindows x = Made.full();
        for (int step = 0; step < 8; step++) {
            Check.taken(x, row[1], step);
        }
        Check.due(x, (String) row[1], "throws." + NO_INDEX, 8);
        x.setField(1, 1);
        Check.due(x, (String) row[1], "throws." + NO_INDEX, 4);
        x.setField(8, 8);
        Check.due(x, (String) row[1], "throws." + NO_INDEX, 256);
        Check.taken(x, row[1], 255);
    }

    private static void promise11NoSuchRead() {
        for (int read : new int[] {-1, 1, 2, 4, Integer.MIN_VALUE, Integer.MAX_VALUE}) {
            Check.refused(Made::telling, NO_INDEX, Check.call("isReadInOrder", 0, read));
        }
        Check.refused(Made::telling, NO_INDEX, Check.call("isReadInOrder", 1, 2), Check.call("isReadInOrder", 1, -1));
        CellWindows x = Made.full();
        Check.due(x, "isReadInOrder", "throws." + NO_INDEX, 0, 0);
        Check.due(x, "isReadInOrder", true, 3, 3);
        Check.due(x, "isReadInOrder", "throws." + NO_INDEX, 3, 4);
        x.dropReads(3);
        Check.due(x, "isReadInOrder", "throws." + NO_INDEX, 3, 0);
        x.addRead(3, 0, 1, 0, 0);
        Check.due(x, "isReadInOrder", true, 3, 0);
        Check.due(x, "isReadInOrder", "throws." + NO_INDEX, 3, 1);
    }

    private static void promise2FirstNamed() {
        Check.refused(Made::full, WRONG_NUMBER, Check.call("addStatement", -1), Check.call("addStatement", 100));
        Check.refused(Made::full, NOT_NOW, Check.call("addStatement", 0), Check.call("addStatement", 99));
    }

    private static void promise3FirstNamed() {
        Check.refused(Made::full, NO_INDEX,
            Check.call("addRead", 4, 0, 0, 0, 0), Check.call("addRead", -1, 0, 1, 4, 0),
            Check.call("addRead", 0, 4, 1, 0, 4), Check.call("addRead", 0, -1, 10, -1, -4),
            // the statement is full, and its source is not there
            Check.call("addRead", 3, 4, 1, 0, 0), Check.call("addRead", 3, -1, 0, 0, 0));
        Check.refused(Made::full, WRONG_NUMBER,
            Check.call("addRead", 3, 0, 0, 0, 0), Check.call("addRead", 3, 0, 10, 0, 0),
            Check.call("addRead", 3, 0, 1, -1, 0), Check.call("addRead", 3, 0, 1, 4, 0),
            Check.call("addRead", 3, 0, 1, 0, -4), Check.call("addRead", 3, 0, 1, 0, 4));
        Check.refused(Made::full, NOT_NOW, Check.call("addRead", 3, 0, 1, 0, 0), Check.call("addRead", 3, 3, 9, 3, 3));
    }

    private static void firstNamed(Object[]... calls) {
        Check.refused(Made::telling, NO_INDEX, calls);
    }

    private static void promise8FirstNamed() {
        firstNamed(Check.call("setOffset", 2, 31), Check.call("setOffset", -1, -1));
    }

    private static void promise23FirstNamed() {
        firstNamed(Check.call("keepRest", 2, 0), Check.call("keepRest", -1, 100));
    }

    private static void promise24FirstNamed() {
        firstNamed(Check.call("keepTwoRests", 2, 0, 1), Check.call("keepTwoRests", 2, 1, 100),
            Check.call("keepTwoRests", -1, 100, 0));
    }

    private static void promise25FirstNamed() {
        firstNamed(Check.call("keepSlant", 2, 10, 1), Check.call("keepSlant", 2, 0, 0),
            Check.call("keepSlant", -1, -1, 100));
    }

    /** What is added after a refused call has the number that the refused one did not get. */
    private static void numbersGoOn() {
        CellWindows x = Made.telling();
        Check.due(x, "addStatement", "throws." + WRONG_NUMBER, 100);
        Check.due(x, "addStatement", 2, 99);
        Check.due(x, "addRead", "throws." + WRONG_NUMBER, 1, 0, 10, 0, 0);
        Check.due(x, "addRead", "throws." + NO_INDEX, 1, 3, 1, 0, 0);
        Check.due(x, "addRead", 2, 1, 0, 9, 0, 0);
        Check.due(x, "setLasting", "throws." + NO_INDEX, 3, true);
        Check.due(x, "addStatement", 3, 1);
        Check.due(x, "setLasting", false, 3, true);
    }

    /** The first statement reads the second one's row above, whose offset is 4: allowed from row weight 5 on. */
    private static CellWindows allowedFromFive() {
        CellWindows x = Made.field(2, 2, 1, 1);
        x.addRead(0, 1, 1, 1, 0);
        x.setOffset(1, 4);
        x.setSchedule(5, 1);
        return x;
    }

    private static CellWindows neverAllowed() {
        CellWindows x = Made.field(2, 2, 1, 1);
        x.addRead(1, 1, 1, 0, 0);
        x.setSchedule(2, 1);
        x.keepRest(0, 2);
        return x;
    }

    private static void noneAllowed(String call) {
        Check.refused(EdgeRefusedTests::allowedFromFive, NOT_NOW, Check.call(call));
        Check.refused(EdgeRefusedTests::neverAllowed, NOT_NOW, Check.call(call));
        CellWindows x = allowedFromFive();
        Check.due(x, "isAllowed", true);
        Check.due(x, call, "throws." + NOT_NOW);
        // with row weight 3 both come at the same time then, and the lower statement's read first
        x.setOffset(1, 3);
        Check.due(x, call, "throws." + NOT_NOW);
        x.setOffset(1, 2);
        Check.taken(x, call);
        // a search that finds one leaves nothing for the next search, which finds none
        x.setOffset(1, 4);
        Check.due(x, call, "throws." + NOT_NOW);
    }

    public static void main(String[] arguments) {
        String nothing = "a call that throws has changed nothing";
        Check.sentence("2 to 8, 22 to 26", nothing + " (changes show)", EdgeRefusedTests::everyChangeShows);
        for (Object[] row : ASKING_FOR_STATEMENT) {
            Object[] call = java.util.Arrays.copyOfRange(row, 1, row.length);
            Check.sentence((String) row[0], (String) row[1], () -> noSuchStatement(call));
        }
        for (Object[] row : ASKING_FOR_POINT) {
            Check.sentence((String) row[0], "no such point", () -> noSuchPoint(row));
        }
        for (Object[] row : ASKING_FOR_STEP) {
            Check.sentence((String) row[0], "if there is no such step", () -> noSuchStep(row));
        }
        Check.sentence("11", "or it has no such read", EdgeRefusedTests::promise11NoSuchRead);
        for (Object[] row : WRONG_NUMBERS) {
            Check.sentence((String) row[0], nothing, () -> Check.refused(Made::telling, WRONG_NUMBER, call(row)));
        }
        Check.sentence("2, 3, 5", nothing + " (numbers)", EdgeRefusedTests::numbersGoOn);
        String first = "the first one that a throws clause names is thrown";
        Check.sentence("2", first, EdgeRefusedTests::promise2FirstNamed);
        Check.sentence("3", first, EdgeRefusedTests::promise3FirstNamed);
        Check.sentence("8", first, EdgeRefusedTests::promise8FirstNamed);
        Check.sentence("23", first, EdgeRefusedTests::promise23FirstNamed);
        Check.sentence("24", first, EdgeRefusedTests::promise24FirstNamed);
        Check.sentence("25", first, EdgeRefusedTests::promise25FirstNamed);
        Check.sentence("41", "if none of them is allowed", () -> noneAllowed("bestRowWeight"));
        Check.sentence("42", "if none of them is allowed", () -> noneAllowed("bestColumnWeight"));
        Check.sentence("43", "if none of them is allowed", () -> noneAllowed("bestRoom"));
        Check.finish();
    }
}
