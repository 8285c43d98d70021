/** Where a life begins and ends, where a conflict does, and which reads lie inside the field. */
public final class EdgeLifeTests {
    /** The first statement's cells come at the steps 0, 1 and 2; the second one's read each at 3, 4 and 5. */
    private static CellWindows readThreeLater() {
        CellWindows x = Made.field(1, 3, 1, 1);
        x.addRead(1, 0, 1, 0, 0);
        return x;
    }

    /** The last cell of the first statement alone is read, by the next step. */
    private static CellWindows readAtOnce() {
        CellWindows x = Made.field(1, 3, 1, 1);
        x.addRead(1, 0, 1, 0, -2);
        return x;
    }

    private static void live(CellWindows x, int... want) {
        for (int step = 0; step < want.length; step++) {
            Check.due(x, "liveAt", want[step], step);
        }
    }

    private static void promise17BornAtAnEarlierOne() {
        live(Made.lasting(1, 4), 0, 1, 2, 3);
        live(readAtOnce(), 0, 0, 0, 1, 0, 0);
    }

    private static void promise17DoesNotEndBefore() {
        // the first cell ends at step 3, and is live there, but not at step 4
        live(readThreeLater(), 0, 1, 2, 3, 2, 1);
        CellWindows x = Made.field(1, 1, 1, 1, 1);
        x.addRead(2, 0, 1, 0, 0);
        live(x, 0, 1, 1);
        x.dropReads(2);
        x.addRead(1, 0, 1, 0, 0);
        live(x, 0, 1, 0);
    }

    private static void promise18Most() {
        Check.due(readThreeLater(), "mostLive", 3);
        Check.due(readAtOnce(), "mostLive", 1);
        // the most is reached at the very last step
        Check.due(Made.lasting(2, 3), "mostLive", 5);
        // .. and right after the first one
        CellWindows x = Made.field(1, 1, 1, 1);
        x.addRead(1, 0, 1, 0, 0);
        Check.due(x, "mostLive", 1);
        // 3 of the first statement and 2 of the second one, but at different steps
        CellWindows both = readThreeLater();
        both.setLasting(1, true);
        Check.due(both, "mostLive", 3);
    }

    private static void promise19MostOfOne() {
        CellWindows x = readThreeLater();
        x.setLasting(1, true);
        live(x, 0, 1, 2, 3, 3, 3);
        Check.due(x, "mostLive", 3);
        Check.due(x, "mostLiveOf", 3, 0);
        Check.due(x, "mostLiveOf", 2, 1);
        // the statement's own most need not stand at the step of all cells' most
        x.setLasting(0, true);
        x.setOffset(0, 1);
        Check.due(x, "mostLive", 5);
        Check.due(x, "mostLiveOf", 2, 0);
        Check.due(x, "mostLiveOf", 3, 1);
    }

    private static void promise16LastLaterStep() {
        CellWindows x = Made.field(1, 4, 1, 1);
        x.addRead(1, 0, 1, 0, 1);
        x.addRead(1, 0, 1, 0, 3);
        x.addRead(1, 0, 1, 0, 0);
        // steps 4 to 7 read: cell 0 at 4, 5 and 7, cell 3 at 7
        int[] ends = {7, 6, 7, 7};
        for (int column = 0; column < 4; column++) {
            Check.due(x, "endOf", ends[column], 0, 0, column);
        }
        // between two readers: only the later one counts
        x.setOffset(0, 1);
        x.addRead(0, 0, 1, 0, 1);
        Check.due(x, "stepOf", 4, 0, 0, 0);
        Check.due(x, "endOf", 5, 0, 0, 0);
        Check.due(x, "endOf", 7, 0, 0, 3);
        Check.due(x, "endOf", 3, 1, 0, 3);
        // a lower statement that reads later than a higher one
        CellWindows crossed = Made.field(1, 2, 1, 1, 1);
        crossed.addRead(1, 0, 1, 0, 0);
        crossed.addRead(2, 0, 1, 0, 0);
        Check.due(crossed, "endOf", 4, 0, 0, 0);
        crossed.setOffset(1, 1);
        Check.due(crossed, "endOf", 4, 0, 0, 0);
        Check.due(crossed, "endOf", 5, 0, 0, 1);
        // a lower row on the left that reads later than an upper one on the right
        CellWindows bent = Made.field(2, 2, 1);
        bent.addRead(0, 0, 1, 0, 1);
        bent.addRead(0, 0, 1, 1, 0);
        bent.setSchedule(1, 3);
        Check.due(bent, "endOf", 2, 0, 0, 0);
        bent.setSchedule(3, 1);
        Check.due(bent, "endOf", 2, 0, 0, 0);
    }

    private static void promise16LastingEnds() {
        CellWindows x = readThreeLater();
        x.setLasting(0, true);
        Check.due(x, "endOf", 6, 0, 0, 0);
        Check.due(x, "endOf", 6, 0, 0, 2);
        Check.due(x, "endOf", 3, 1, 0, 0);
        x.setLasting(1, true);
        Check.due(x, "endOf", 6, 1, 0, 2);
        // the number of steps goes with the statements and the field
        x.addStatement(1);
        Check.due(x, "endOf", 9, 0, 0, 0);
        x.setField(1, 1);
        Check.due(x, "endOf", 3, 0, 0, 0);
        Check.due(x, "endOf", 2, 2, 0, 0);
        x.setLasting(0, false);
        Check.due(x, "endOf", 1, 0, 0, 0);
    }

    /** A cell that is born at the step at which another one ends is not in its way; one step before, it is. */
    private static void promise20BeforeTheOtherEnds() {
        CellWindows x = Made.reading(1, 4, 0, 2);
        // ends 2, 3, 2 and 3
        Check.due(x, "conflictsOf", 1, 0, 0, 0, 0);
        Check.due(x, "conflictsOf", 2, 0, 0, 1, 0);
        Check.due(x, "conflictsOf", 1, 0, 0, 2, 0);
        Check.due(x, "conflictsOf", 0, 0, 0, 3, 0);
        Check.due(Made.reading(1, 4, 0, 1), "conflictPairs", 0, 0);
        Check.due(x, "conflictPairs", 2, 0);
        Check.due(Made.reading(1, 4, 0, 3), "conflictPairs", 2, 0);
    }

    /** The cells of another statement: before, within and after. */
    private static void promise20OtherStatement() {
        CellWindows x = readThreeLater();
        // cell 0 ends at 3, as the second statement's first cell is born; cell 1 at 4, cell 2 at 5
        Check.due(x, "conflictsOf", 0, 0, 0, 0, 1);
        Check.due(x, "conflictsOf", 1, 0, 0, 1, 1);
        Check.due(x, "conflictsOf", 2, 0, 0, 2, 1);
        Check.due(x, "conflictsOf", 2, 1, 0, 0, 0);
        Check.due(x, "conflictsOf", 1, 1, 0, 1, 0);
        Check.due(x, "conflictsOf", 0, 1, 0, 2, 0);
    }

    private static void promise20ItselfLeftOut() {
        Check.due(Made.lasting(1, 1), "conflictsOf", 0, 0, 0, 0, 0);
        CellWindows x = Made.lasting(1, 4);
        for (int column = 0; column < 4; column++) {
            Check.due(x, "conflictsOf", 3, 0, 0, column, 0);
        }
        // of another statement none is left out, though it stands at the same point
        x.addStatement(1);
        x.setLasting(1, true);
        Check.due(x, "conflictsOf", 4, 0, 0, 1, 1);
        Check.due(x, "conflictsOf", 4, 1, 0, 1, 0);
        Check.due(x, "conflictsOf", 3, 1, 0, 1, 1);
    }

    /** Each pair counts once, and only pairs within the statement. */
    private static void promise21Pairs() {
        Check.due(Made.lasting(1, 1), "conflictPairs", 0, 0);
        Check.due(Made.lasting(1, 2), "conflictPairs", 1, 0);
        Check.due(Made.lasting(1, 3), "conflictPairs", 3, 0);
        CellWindows x = readThreeLater();
        Check.due(x, "conflictPairs", 3, 0);
        Check.due(x, "conflictPairs", 0, 1);
        x.setLasting(1, true);
        Check.due(x, "conflictPairs", 3, 0);
        Check.due(x, "conflictPairs", 3, 1);
    }

    /** Cells one apart and two apart in line are in conflict. */
    private static void promise30NoTwoShare() {
        CellWindows x = Made.reading(1, 8, 0, 3);
        boolean[] right = {false, false, true, true};
        for (int modulus = 1; modulus <= 4; modulus++) {
            x.keepRest(0, modulus);
            Check.due(x, "isRight", right[modulus - 1], 0);
            x.keepTwoRests(0, 9, modulus);
            Check.due(x, "isRight", right[modulus - 1], 0);
            x.keepSlant(0, 1, modulus);
            Check.due(x, "isRight", right[modulus - 1], 0);
        }
        x.keepWhole(0);
        Check.due(x, "isRight", true, 0);
        // what is not in conflict may share a place, and the cells of other statements do not matter
        x.dropReads(0);
        x.keepRest(0, 1);
        Check.due(x, "isRight", true, 0);
        x.addStatement(1);
        x.addRead(1, 0, 1, 0, 0);
        x.setSchedule(0, 1);
        Check.due(x, "isRight", true, 0);
        x.setSchedule(0, 0);
        Check.due(x, "isRight", false, 0);
        // fewer places than there are live cells of another statement
        x.setLasting(0, true);
        x.keepRest(1, 1);
        Check.due(x, "isRight", true, 1);
    }

    /** Whether a read of that many rows and columns back, which comes too early, matters on that field. */
    private static void matters(boolean want, int rows, int columns, int rowsBack, int columnsBack) {
        CellWindows x = Made.field(rows, columns, 1, 1);
        x.setSchedule(0, 0);
        x.addRead(0, 1, 1, rowsBack, columnsBack);
        Check.due(x, "isReadInOrder", !want, 0, 0);
        Check.due(x, "isAllowed", !want);
        Check.due(x, "isAllowedWith", !want, 0, 0);
        Check.due(x, "endOf", 2 * rows * columns - 1, 1, rows - 1, columns - 1);
    }

    private static void insideTheField() {
        matters(true, 1, 1, 0, 0);
        matters(false, 1, 1, 1, 0);
        matters(false, 1, 1, 0, 1);
        matters(false, 1, 1, 0, -1);
        matters(true, 4, 1, 3, 0);
        matters(false, 3, 1, 3, 0);
        matters(true, 1, 4, 0, 3);
        matters(false, 1, 3, 0, 3);
        matters(true, 1, 4, 0, -3);
        matters(false, 1, 3, 0, -3);
        // one cell of all reads inside, then none for the rows alone, and for the columns alone
        matters(true, 4, 4, 3, -3);
        matters(false, 3, 8, 3, -3);
        matters(false, 8, 3, 3, 3);
        matters(true, 8, 8, 3, 3);
    }

    public static void main(String[] arguments) {
        Check.sentence("17", "live at a step if it was born at an earlier one",
            EdgeLifeTests::promise17BornAtAnEarlierOne);
        Check.sentence("17", "and does not end before that step", EdgeLifeTests::promise17DoesNotEndBefore);
        Check.sentence("18", "the most cells, of all statements, that are live at one step",
            EdgeLifeTests::promise18Most);
        Check.sentence("19", "the most cells of a statement that are live at one step",
            EdgeLifeTests::promise19MostOfOne);
        Check.sentence("16", "ends at the last later step that reads it", EdgeLifeTests::promise16LastLaterStep);
        Check.sentence("16", "at the number of steps", EdgeLifeTests::promise16LastingEnds);
        Check.sentence("20, 21", "born at a later step than the other one, and before the other one ends",
            EdgeLifeTests::promise20BeforeTheOtherEnds);
        Check.sentence("20", "a cell of this or another statement", EdgeLifeTests::promise20OtherStatement);
        Check.sentence("20", "itself left out", EdgeLifeTests::promise20ItselfLeftOut);
        Check.sentence("21", "how many pairs of cells of a statement are in conflict", EdgeLifeTests::promise21Pairs);
        Check.sentence("30", "no two cells of the statement that are in conflict share a place",
            EdgeLifeTests::promise30NoTwoShare);
        Check.sentence("9, 10, 11", "every read that stays inside the field, border values do not matter",
            EdgeLifeTests::insideTheField);
        Check.finish();
    }
}
