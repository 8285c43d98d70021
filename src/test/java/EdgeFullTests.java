/** Full: the most statements, reads, points, places and calls. */
public final class EdgeFullTests {
    private static void promise2FourStatements() {
        CellWindows x = Made.field(1, 2);
        for (int number = 0; number < 4; number++) {
            Check.due(x, "addStatement", number, number + 1);
        }
        Check.due(x, "addStatement", "throws.IllegalStateException", 5);
        Check.due(x, "addStatement", "throws.IllegalStateException", 0);
        Check.due(x, "steps", 8);
        Check.due(x, "valueOf", 4, 3, 0, 1);
        Check.refused(Made::full, "IllegalStateException",
            Check.call("addStatement", 0), Check.call("addStatement", 99));
    }

    /** Nothing takes a statement away, so it stays full. */
    private static void promise2StaysFull() {
        CellWindows x = Made.full();
        x.dropReads(3);
        x.setField(8, 8);
        x.contract();
        Check.due(x, "addStatement", "throws.IllegalStateException", 5);
    }

    private static void promise3FourReads() {
        CellWindows x = Made.field(1, 2, 1, 2);
        for (int read = 0; read < 4; read++) {
            Check.due(x, "addRead", read, 0, 1, 1, 0, 0);
        }
        Check.due(x, "addRead", "throws.IllegalStateException", 0, 1, 1, 0, 0);
        // the other statement has its own four
        for (int read = 0; read < 4; read++) {
            Check.due(x, "addRead", read, 1, 0, 2, 0, 0);
        }
        Check.due(x, "addRead", "throws.IllegalStateException", 1, 0, 1, 0, 0);
        // all four count, and no fifth
        Check.due(x, "valueOf", 1, 0, 0, 0);
        Check.due(x, "valueOf", 2 + 4 * 2, 1, 0, 0);
        Check.refused(Made::full, "IllegalStateException", Check.call("addRead", 3, 3, 9, 3, -3));
    }

    private static void promise4RoomAgain() {
        CellWindows x = Made.full();
        Check.due(x, "addRead", "throws.IllegalStateException", 3, 0, 1, 0, 1);
        Check.due(x, "dropReads", 0, 2);
        Check.due(x, "addRead", "throws.IllegalStateException", 3, 0, 1, 0, 1);
        Check.due(x, "dropReads", 4, 3);
        Check.due(x, "isReadInOrder", "throws.IndexOutOfBoundsException", 3, 0);
        Check.due(x, "valueOf", 4, 3, 0, 1);
        for (int read = 0; read < 4; read++) {
            Check.due(x, "addRead", read, 3, 0, 9, 0, 0);
        }
        Check.due(x, "addRead", "throws.IllegalStateException", 3, 0, 1, 0, 1);
        Check.due(x, "valueOf", 4 + 36, 3, 0, 1);
        Check.due(x, "dropReads", 4, 3);
    }

    private static void promise4HowMany() {
        CellWindows x = Made.field(1, 1, 1);
        for (int many = 0; many <= 4; many++) {
            for (int read = 0; read < many; read++) {
                x.addRead(0, 0, 1, 0, 0);
            }
            Check.due(x, "dropReads", many, 0);
            Check.due(x, "dropReads", 0, 0);
        }
    }

    /** The last of four reads answers, is in order or not, and lets the cell that it reads live on. */
    private static void promise11LastRead() {
        CellWindows x = Made.full();
        for (int read = 0; read < 4; read++) {
            Check.due(x, "isReadInOrder", true, 3, read);
        }
        x.setOffset(2, 30);
        Check.due(x, "isReadInOrder", true, 3, 1);
        Check.due(x, "isReadInOrder", false, 3, 2);
        x.setOffset(2, 0);
        // the last read alone is out of order, and so the schedule is not allowed
        Check.due(x, "isAllowed", true);
        x.dropReads(3);
        for (int columnsBack = 3; columnsBack >= 0; columnsBack--) {
            x.addRead(3, 3, 1, 0, columnsBack);
        }
        Check.due(x, "isReadInOrder", true, 3, 2);
        Check.due(x, "isReadInOrder", false, 3, 3);
        Check.due(x, "isAllowed", false);
        x = Made.full();
        // the fourth statement's second cell is the last step
        Check.due(x, "endOf", 7, 0, 0, 0);
        Check.due(x, "endOf", 7, 3, 0, 0);
        Check.due(x, "endOf", 7, 3, 0, 1);
        Check.due(x, "endOf", 1, 0, 0, 1);
        // the border on the left, then the cells 1, 2, 3 and the first one's 954
        Check.due(x, "valueOf", 4 + 93 + 2 * 94 + 3 * 95 + 4 * 96, 3, 0, 0);
        Check.due(x, "valueOf", 4 + 1 + 4 + 9 + 4 * 954, 3, 0, 1);
    }

    private static CellWindows largest() {
        CellWindows x = Made.field(8, 8, 1, 2, 3, 4);
        for (int statement = 0; statement < 4; statement++) {
            x.setLasting(statement, true);
        }
        return x;
    }

    /** The last of four statements lasts on 2 rows of 3 points, and none of the others does. */
    private static CellWindows lastOfFour() {
        CellWindows x = Made.field(2, 3, 1, 1, 1, 1);
        x.setLasting(3, true);
        return x;
    }

    private static void askedOfTheLast() {
        CellWindows x = lastOfFour();
        String[] calls = {"mostLiveOf", "conflictPairs", "leastRest", "leastRestByDifferences", "leastRowRest",
            "leastColumnRest", "leastSlantModulus", "leastSlant"};
        int[] ofTheFirst = {0, 0, 1, 1, 1, 1, 1, 0};
        int[] ofTheLast = {5, 15, 6, 6, 2, 3, 6, 2};
        for (int i = 0; i < calls.length; i++) {
            Check.due(x, calls[i], ofTheFirst[i], 0);
            Check.due(x, calls[i], ofTheFirst[i], 2);
            Check.due(x, calls[i], ofTheLast[i], 3);
        }
        Check.due(x, "setLasting", false, 2, false);
        Check.due(x, "setLasting", true, 3, true);
        Check.due(x, "contract", 1 + 1 + 1 + 6);
    }

    private static void keptForTheLast() {
        CellWindows x = lastOfFour();
        Check.due(x, "keepRest", 5, 3, 5);
        Check.due(x, "windowSize", 6, 0);
        Check.due(x, "windowSize", 5, 3);
        Check.due(x, "isRight", true, 0);
        Check.due(x, "isRight", false, 3);
        Check.due(x, "keepWhole", 6, 3);
        Check.due(x, "isRight", true, 3);
        Check.due(x, "keepTwoRests", 2, 3, 2, 1);
        Check.due(x, "windowSize", 6, 2);
        Check.due(x, "isRight", false, 3);
        Check.due(x, "keepSlant", 7, 3, 3, 7);
        Check.due(x, "room", 25);
        Check.due(x, "placeOf", 0, 3, 1, 2);
        Check.due(x, "placeOf", 5, 2, 1, 2);
        Check.due(x, "keepWhole", 6, 3);
        Check.due(x, "room", 24);
        x.keepRest(0, 1);
        Check.due(x, "keepWhole", 6, 3);
        Check.due(x, "windowSize", 1, 0);
    }

    private static void largestField() {
        CellWindows x = largest();
        Check.due(x, "steps", 256);
        Check.due(x, "stepOf", 255, 3, 7, 7);
        Check.due(x, "statementAt", 3, 255);
        Check.due(x, "pointAt", 63, 255);
        Check.due(x, "endOf", 256, 0, 0, 0);
        Check.due(x, "endOf", 256, 3, 7, 7);
        Check.due(x, "liveAt", 255, 255);
        Check.due(x, "mostLive", 255);
        Check.due(x, "mostLiveOf", 64, 2);
        Check.due(x, "mostLiveOf", 63, 3);
        Check.due(x, "conflictsOf", 63, 0, 0, 0, 0);
        Check.due(x, "conflictsOf", 64, 0, 0, 0, 3);
        Check.due(x, "conflictsOf", 64, 3, 7, 7, 0);
        Check.due(x, "conflictPairs", 2016, 3);
        Check.due(x, "contract", 256);
        Check.due(x, "firstWrongStep", -1);
        Check.due(x, "bestRoom", 256);
    }

    private static void largestLeastWindows() {
        CellWindows x = largest();
        Check.due(x, "leastRest", 64, 3);
        Check.due(x, "leastRestByDifferences", 64, 3);
        Check.due(x, "leastRowRest", 8, 3);
        Check.due(x, "leastColumnRest", 8, 3);
        Check.due(x, "leastSlantModulus", 64, 3);
        Check.due(x, "leastSlant", 8, 3);
        Check.due(x, "leastJointRest", 64, 3, 3);
        Check.due(x, "leastJointRest", -1, 0, 3);
    }

    private static void latestTimes() {
        CellWindows x = Made.field(8, 8, 1, 2, 3, 4);
        Check.due(x, "setSchedule", true, 9, 9);
        for (int statement = 0; statement < 4; statement++) {
            Check.due(x, "setOffset", true, statement, 30);
        }
        Check.due(x, "stepOf", 255, 3, 7, 7);
        Check.due(x, "stepOf", 0, 0, 0, 0);
        Check.due(x, "setOffset", true, 0, 0);
        // 30 is after the times 0, 9, 18 and 27 of the first statement: 1 + 2 + 3 + 4 cells
        Check.due(x, "stepOf", 10, 1, 0, 0);
        Check.due(x, "stepOf", 255, 3, 7, 7);
    }

    private static void promise28LargestWindows() {
        CellWindows x = Made.field(8, 8, 1, 2, 3, 4);
        for (int statement = 0; statement < 4; statement++) {
            Check.due(x, "keepTwoRests", 9801, statement, 99, 99);
        }
        Check.due(x, "room", 39204);
        Check.due(x, "placeOf", 700, 3, 7, 7);
        Check.due(x, "contractedValueOf", 4, 3, 7, 7);
        Check.due(x, "firstWrongStep", -1);
    }

    /** The document promises 512 calls of one object: the last one answers like the first one. */
    private static void mostCalls() {
        CellWindows x = Made.telling();
        String best = String.valueOf(x.bestRoom());
        for (int calls = 13; calls < 510; calls++) {
            x.setOffset(0, calls % 31);
        }
        x.setOffset(0, 1);
        Check.due(x, "bestRoom", best);
    }

    public static void main(String[] arguments) {
        Check.sentence("2", "IllegalStateException if there are 4 statements", EdgeFullTests::promise2FourStatements);
        Check.sentence("2", "There are up to 4, numbered from 0", EdgeFullTests::promise2StaysFull);
        Check.sentence("3", "IllegalStateException if the statement has 4 reads", EdgeFullTests::promise3FourReads);
        Check.sentence("4", "Drops all reads of a statement", EdgeFullTests::promise4RoomAgain);
        Check.sentence("4", "Returns how many it had", EdgeFullTests::promise4HowMany);
        Check.sentence("3, 9, 11, 16, 38", "the number of the read, from 0 for each statement",
            EdgeFullTests::promise11LastRead);
        Check.sentence("5, 19, 21, 26, 31 to 36", "There are up to 4, numbered from 0", EdgeFullTests::askedOfTheLast);
        Check.sentence("22 to 30", "There are up to 4, numbered from 0", EdgeFullTests::keptForTheLast);
        Check.sentence("6, 12 to 21, 26, 40, 43", "rows: 1 to 8, columns: 1 to 8, both 8", EdgeFullTests::largestField);
        Check.sentence("31 to 37", "rows: 1 to 8, columns: 1 to 8, both 8", EdgeFullTests::largestLeastWindows);
        Check.sentence("7, 8, 13", "the greatest weights and offsets", EdgeFullTests::latestTimes);
        Check.sentence("24, 28, 39", "as many places as their product", EdgeFullTests::promise28LargestWindows);
        Check.sentence("1", "at most 512 calls after it has been made", EdgeFullTests::mostCalls);
        Check.finish();
    }
}
