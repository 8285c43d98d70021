/** Empty: no statements, no reads, nothing written yet, the field of one point. */
public final class EdgeEmptyTests {
    private static final String NO_INDEX = "throws.IndexOutOfBoundsException";

    /** Promise, due answer and call, each on a new object. */
    private static final Object[][] WITHOUT_STATEMENTS = {
        {"3", NO_INDEX, "addRead", 0, 0, 1, 0, 0}, {"4", NO_INDEX, "dropReads", 0},
        {"5", NO_INDEX, "setLasting", 0, true}, {"6", 1, "setField", 1, 1}, {"6", 64, "setField", 8, 8},
        {"7", true, "setSchedule", 0, 0}, {"7", true, "setSchedule", 9, 9}, {"8", NO_INDEX, "setOffset", 0, 0},
        {"9", true, "isAllowed"}, {"10", true, "isAllowedWith", 0, 0}, {"10", true, "isAllowedWith", 9, 9},
        {"11", NO_INDEX, "isReadInOrder", 0, 0}, {"12", 0, "steps"}, {"13", NO_INDEX, "stepOf", 0, 0, 0},
        {"14", NO_INDEX, "statementAt", 0}, {"15", NO_INDEX, "pointAt", 0}, {"16", NO_INDEX, "endOf", 0, 0, 0},
        {"17", NO_INDEX, "liveAt", 0}, {"18", 0, "mostLive"}, {"19", NO_INDEX, "mostLiveOf", 0},
        {"20", NO_INDEX, "conflictsOf", 0, 0, 0, 0}, {"21", NO_INDEX, "conflictPairs", 0},
        {"22", NO_INDEX, "keepWhole", 0}, {"23", NO_INDEX, "keepRest", 0, 1},
        {"24", NO_INDEX, "keepTwoRests", 0, 1, 1}, {"25", NO_INDEX, "keepSlant", 0, 0, 1}, {"26", 0, "contract"},
        {"27", NO_INDEX, "windowSize", 0}, {"28", 0, "room"}, {"29", NO_INDEX, "placeOf", 0, 0, 0},
        {"30", NO_INDEX, "isRight", 0}, {"31", NO_INDEX, "leastRest", 0},
        {"32", NO_INDEX, "leastRestByDifferences", 0}, {"33", NO_INDEX, "leastRowRest", 0},
        {"34", NO_INDEX, "leastColumnRest", 0}, {"35", NO_INDEX, "leastSlantModulus", 0},
        {"36", NO_INDEX, "leastSlant", 0}, {"37", NO_INDEX, "leastJointRest", 0, 0},
        {"38", NO_INDEX, "valueOf", 0, 0, 0}, {"39", NO_INDEX, "contractedValueOf", 0, 0, 0},
        {"40", -1, "firstWrongStep"}, {"41", 0, "bestRowWeight"}, {"42", 0, "bestColumnWeight"},
        {"43", 0, "bestRoom"}, {"2", 0, "addStatement", 0},
    };

    /** The same of the second one of two statements of addends 5 and 6, without reads, on 2 rows of 2 points. */
    private static final Object[][] WITHOUT_READS = {
        {"2", 2, "addStatement", 0}, {"4", 0, "dropReads", 1}, {"5", false, "setLasting", 1, true},
        {"6", 1, "setField", 1, 1}, {"9", true, "isAllowed"}, {"10", true, "isAllowedWith", 0, 9},
        {"7", true, "setSchedule", 0, 9}, {"8", true, "setOffset", 0, 30},
        {"11", NO_INDEX, "isReadInOrder", 1, 0}, {"12", 8, "steps"}, {"13", 6, "stepOf", 1, 1, 0},
        {"14", 1, "statementAt", 6}, {"15", 2, "pointAt", 6}, {"16", 6, "endOf", 1, 1, 0},
        {"17", 0, "liveAt", 7}, {"17", 0, "liveAt", 1}, {"18", 0, "mostLive"}, {"19", 0, "mostLiveOf", 1},
        {"20", 0, "conflictsOf", 1, 0, 0, 1}, {"20", 0, "conflictsOf", 1, 0, 0, 0}, {"21", 0, "conflictPairs", 1},
        {"22", 4, "keepWhole", 1}, {"23", 3, "keepRest", 1, 3}, {"24", 6, "keepTwoRests", 1, 2, 3},
        {"25", 3, "keepSlant", 1, 2, 3}, {"26", 2, "contract"}, {"27", 4, "windowSize", 1}, {"28", 8, "room"},
        {"29", 3, "placeOf", 1, 1, 1}, {"30", true, "isRight", 1}, {"31", 1, "leastRest", 1},
        {"32", 1, "leastRestByDifferences", 1}, {"33", 1, "leastRowRest", 1}, {"34", 1, "leastColumnRest", 1},
        {"35", 1, "leastSlantModulus", 1}, {"36", 0, "leastSlant", 1}, {"37", 1, "leastJointRest", 1, 0},
        {"37", 1, "leastJointRest", 1, 1}, {"38", 6, "valueOf", 1, 0, 0}, {"39", 6, "contractedValueOf", 1, 1, 1},
        {"40", -1, "firstWrongStep"}, {"41", 0, "bestRowWeight"}, {"42", 0, "bestColumnWeight"},
        {"43", 2, "bestRoom"}, {"3", 0, "addRead", 1, 0, 1, 0, 0},
    };

    private static void asked(CellWindows x, Object... row) {
        Check.due(x, (String) row[2], row[1], java.util.Arrays.copyOfRange(row, 3, row.length));
    }

    private static void promise1FieldAtFirst() {
        CellWindows x = new CellWindows();
        Check.due(x, "addStatement", 0, 1);
        Check.due(x, "steps", 16);
        Check.due(x, "stepOf", 15, 0, 3, 3);
        Check.due(x, "stepOf", 7, 0, 1, 3);
        Check.due(x, "stepOf", NO_INDEX, 0, 4, 0);
        Check.due(x, "stepOf", NO_INDEX, 0, 0, 4);
    }

    private static void promise1NoStatements() {
        CellWindows x = new CellWindows();
        Check.due(x, "steps", 0);
        Check.due(x, "room", 0);
        Check.due(x, "windowSize", NO_INDEX, 0);
        Check.due(x, "addStatement", 0, 1);
        // another object still has none
        Check.due(new CellWindows(), "steps", 0);
    }

    /** At first: row weight 1, column weight 0, offsets 0. */
    private static void promise13ScheduleAtFirst() {
        CellWindows x = Made.field(2, 2, 1, 1);
        int[] steps = {0, 1, 4, 5};
        for (int line = 0; line < 4; line++) {
            Check.due(x, "stepOf", steps[line], 0, line / 2, line % 2);
            Check.due(x, "stepOf", steps[line] + 2, 1, line / 2, line % 2);
        }
        // the row weight is 1: an offset of 1 brings the upper row beside the first statement's lower one
        x.setOffset(1, 1);
        Check.due(x, "stepOf", 2, 0, 1, 0);
        Check.due(x, "stepOf", 4, 1, 0, 0);
        // a statement that comes later has the offset 0, too
        x.addStatement(1);
        Check.due(x, "stepOf", 2, 2, 0, 0);
    }

    private static void promise2ReadsNothing() {
        CellWindows x = Made.field(2, 2, 8);
        Check.due(x, "addRead", 0, 0, 0, 1, 0, 1);
        Check.due(x, "addStatement", 1, 9);
        Check.due(x, "isReadInOrder", NO_INDEX, 1, 0);
        for (int line = 0; line < 4; line++) {
            Check.due(x, "valueOf", 9, 1, line / 2, line % 2);
            Check.due(x, "endOf", x.stepOf(1, line / 2, line % 2), 1, line / 2, line % 2);
        }
        Check.due(x, "dropReads", 0, 1);
        Check.due(x, "addRead", 0, 1, 0, 1, 0, 0);
    }

    private static void promise22NewStatementKeepsWhole() {
        CellWindows x = Made.field(2, 3, 1);
        x.keepRest(0, 1);
        x.addStatement(1);
        Check.due(x, "windowSize", 6, 1);
        Check.due(x, "placeOf", 5, 1, 1, 2);
        Check.due(x, "setLasting", false, 1, false);
    }

    /** In order: cells that come later are still 0; so is the cell itself when it is computed. */
    private static void promise38NotYetWritten() {
        CellWindows x = Made.field(1, 3, 5);
        x.addRead(0, 0, 9, 0, -1);
        Check.due(x, "isAllowed", false);
        Check.due(x, "valueOf", 5, 0, 0, 0);
        Check.due(x, "valueOf", 5, 0, 0, 1);
        // 7 times column 3 at the border
        Check.due(x, "valueOf", 5 + 9 * 21, 0, 0, 2);
        // what an earlier call computed is not written yet, either
        Check.due(x, "valueOf", 5, 0, 0, 1);
        CellWindows lower = Made.field(1, 1, 5, 6);
        lower.addRead(0, 1, 9, 0, 0);
        Check.due(lower, "valueOf", 5, 0, 0, 0);
        lower.setOffset(0, 1);
        Check.due(lower, "valueOf", 5 + 9 * 6, 0, 0, 0);
    }

    /** Each cell reads the one on its right, which is written later: nothing lives, and one place does for all. */
    private static final Object[][] NOT_ALLOWED = {
        {"2", 1, "addStatement", 1}, {"3", 1, "addRead", 0, 0, 1, 0, -1}, {"4", 1, "dropReads", 0},
        {"5", false, "setLasting", 0, true}, {"6", 6, "setField", 2, 3}, {"7", false, "setSchedule", 1, 1},
        {"8", false, "setOffset", 0, 30}, {"9", false, "isAllowed"}, {"10", false, "isAllowedWith", 9, 0},
        {"11", false, "isReadInOrder", 0, 0}, {"12", 3, "steps"}, {"13", 2, "stepOf", 0, 0, 2},
        {"14", 0, "statementAt", 2}, {"15", 2, "pointAt", 2}, {"16", 1, "endOf", 0, 0, 1}, {"17", 0, "liveAt", 2},
        {"18", 0, "mostLive"}, {"19", 0, "mostLiveOf", 0}, {"20", 0, "conflictsOf", 0, 0, 1, 0},
        {"21", 0, "conflictPairs", 0}, {"22", 3, "keepWhole", 0}, {"23", 2, "keepRest", 0, 2},
        {"24", 6, "keepTwoRests", 0, 2, 3}, {"25", 2, "keepSlant", 0, 1, 2}, {"26", 1, "contract"},
        {"27", 3, "windowSize", 0}, {"28", 3, "room"}, {"29", 2, "placeOf", 0, 0, 2}, {"30", true, "isRight", 0},
        {"31", 1, "leastRest", 0}, {"32", 1, "leastRestByDifferences", 0}, {"33", 1, "leastRowRest", 0},
        {"34", 1, "leastColumnRest", 0}, {"35", 1, "leastSlantModulus", 0}, {"36", 0, "leastSlant", 0},
        {"37", 1, "leastJointRest", 0, 0}, {"38", 1, "valueOf", 0, 0, 1}, {"39", 22, "contractedValueOf", 0, 0, 2},
        {"40", -1, "firstWrongStep"}, {"41", "throws.IllegalStateException", "bestRowWeight"},
        {"42", "throws.IllegalStateException", "bestColumnWeight"}, {"43", "throws.IllegalStateException", "bestRoom"},
    };

    /** After the window of one place is chosen, which is right, the second cell finds the first one in it. */
    private static void rightButNotAllowed() {
        CellWindows x = Made.reading(1, 3, 0, -1);
        Check.due(x, "contract", 1);
        Check.due(x, "isRight", true, 0);
        Check.due(x, "firstWrongStep", 1);
        Check.due(x, "valueOf", 1, 0, 0, 1);
        Check.due(x, "contractedValueOf", 2, 0, 0, 1);
    }

    private static void promise38ReadsThenWrites() {
        CellWindows x = Made.field(1, 2, 5);
        x.addRead(0, 0, 9, 0, 0);
        Check.due(x, "valueOf", 5, 0, 0, 0);
        Check.due(x, "valueOf", 5, 0, 0, 1);
        Check.due(x, "contractedValueOf", 5, 0, 0, 1);
    }

    private static void promise39NothingPutThere() {
        CellWindows x = Made.field(1, 3, 5);
        x.addRead(0, 0, 9, 0, -1);
        // each in its own place: as without windows
        Check.due(x, "contractedValueOf", 5, 0, 0, 0);
        Check.due(x, "contractedValueOf", 5, 0, 0, 1);
        x.keepRest(0, 1);
        // all in one place: nothing was put there before the first cell alone
        Check.due(x, "contractedValueOf", 5, 0, 0, 0);
        Check.due(x, "contractedValueOf", 50, 0, 0, 1);
        Check.due(x, "contractedValueOf", 194, 0, 0, 2);
        x.keepRest(0, 2);
        // the second cell wants the third one and finds the first one; the first one finds nothing
        Check.due(x, "contractedValueOf", 5, 0, 0, 0);
        Check.due(x, "contractedValueOf", 50, 0, 0, 1);
        Check.due(x, "contractedValueOf", 5, 0, 0, 0);
        x.keepRest(0, 1);
        x.dropReads(0);
        x.addRead(0, 0, 9, 0, 0);
        // a cell that reads itself finds the one before it in its place
        Check.due(x, "contractedValueOf", 5, 0, 0, 0);
        Check.due(x, "contractedValueOf", 50, 0, 0, 1);
        Check.due(x, "contractedValueOf", 455, 0, 0, 2);
    }

    private static void promise16EndsAsBorn() {
        CellWindows x = Made.field(1, 3, 1, 1);
        Check.due(x, "endOf", 1, 0, 0, 1);
        Check.due(x, "endOf", 5, 1, 0, 2);
        // read by itself, and read by a step that comes earlier: neither is a later step
        x.addRead(0, 0, 1, 0, 0);
        Check.due(x, "endOf", 1, 0, 0, 1);
        x.addRead(0, 1, 1, 0, 0);
        Check.due(x, "endOf", 4, 1, 0, 1);
        // only the last cell is read by none
        x.addRead(0, 0, 1, 0, 1);
        Check.due(x, "endOf", 2, 0, 0, 1);
        Check.due(x, "endOf", 2, 0, 0, 2);
    }

    private static void promise18WithoutSteps() {
        CellWindows x = new CellWindows();
        Check.due(x, "mostLive", 0);
        x.setField(8, 8);
        x.setSchedule(9, 9);
        Check.due(x, "mostLive", 0);
    }

    /** A lasting cell of a single step is live at no step. */
    private static void promise18And19OneStep() {
        CellWindows x = Made.lasting(1, 1);
        Check.due(x, "endOf", 1, 0, 0, 0);
        Check.due(x, "liveAt", 0, 0);
        Check.due(x, "mostLive", 0);
        Check.due(x, "mostLiveOf", 0, 0);
    }

    private static void onePoint() {
        CellWindows x = Made.lasting(1, 1);
        x.addRead(0, 0, 1, 3, 3);
        Check.due(x, "steps", 1);
        Check.due(x, "isReadInOrder", true, 0, 0);
        Check.due(x, "conflictsOf", 0, 0, 0, 0, 0);
        Check.due(x, "conflictPairs", 0, 0);
        Check.due(x, "leastRest", 1, 0);
        Check.due(x, "leastRestByDifferences", 1, 0);
        Check.due(x, "leastRowRest", 1, 0);
        Check.due(x, "leastColumnRest", 1, 0);
        Check.due(x, "leastSlantModulus", 1, 0);
        Check.due(x, "leastSlant", 0, 0);
        Check.due(x, "contract", 1);
        // -15 - 21 modulo 100
        Check.due(x, "valueOf", 1 + 64, 0, 0, 0);
        Check.due(x, "bestRoom", 1);
    }

    public static void main(String[] arguments) {
        Check.sentence("1", "Begins with a field of 4 by 4 points", EdgeEmptyTests::promise1FieldAtFirst);
        Check.sentence("1", "without statements", EdgeEmptyTests::promise1NoStatements);
        for (Object[] row : WITHOUT_STATEMENTS) {
            Check.sentence((String) row[0], "without statements", () -> asked(new CellWindows(), row));
        }
        for (Object[] row : WITHOUT_READS) {
            Check.sentence((String) row[0], "a statement that reads nothing", () -> asked(Made.field(2, 2, 5, 6), row));
        }
        Check.sentence("7, 8, 13", "at first the row weight is 1, the column weight 0, and offsets are 0",
            EdgeEmptyTests::promise13ScheduleAtFirst);
        Check.sentence("2", "Adds a statement that reads nothing", EdgeEmptyTests::promise2ReadsNothing);
        Check.sentence("2, 22", "A new statement has the whole window",
            EdgeEmptyTests::promise22NewStatementKeepsWhole);
        Check.sentence("38", "reading a cell that is not yet written gives 0", EdgeEmptyTests::promise38NotYetWritten);
        String notAllowed = "all calls work for schedules that are not allowed, too";
        for (Object[] row : NOT_ALLOWED) {
            Check.sentence((String) row[0], notAllowed, () -> asked(Made.reading(1, 3, 0, -1), row));
        }
        Check.sentence("26, 30, 38 to 40", notAllowed, EdgeEmptyTests::rightButNotAllowed);
        Check.sentence("38, 39", "Each step reads what it needs, then writes its cell",
            EdgeEmptyTests::promise38ReadsThenWrites);
        Check.sentence("39", "0 if nothing was ever put there", EdgeEmptyTests::promise39NothingPutThere);
        Check.sentence("16", "with no such step it ends as it is born", EdgeEmptyTests::promise16EndsAsBorn);
        Check.sentence("18", "0 without steps", EdgeEmptyTests::promise18WithoutSteps);
        Check.sentence("18, 19", "live at one step", EdgeEmptyTests::promise18And19OneStep);
        Check.sentence("6, 12 to 43", "rows: 1 to 8, columns: 1 to 8, both 1", EdgeEmptyTests::onePoint);
        Check.finish();
    }
}
