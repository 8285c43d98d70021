/** Promises 16 to 21: lives and conflicts. */
public final class LivesTests {
    /** One row of five points; each cell reads the one two before it: ends 2 3 4 3 4. */
    private static CellWindows row() {
        CellWindows x = new CellWindows();
        x.setField(1, 5);
        x.addStatement(1);
        x.addRead(0, 0, 1, 0, 2);
        return x;
    }

    private static void promise16EndOf() {
        CellWindows x = row();
        int[] ends = {2, 3, 4, 3, 4};
        for (int column = 0; column < 5; column++) {
            Check.due(x, "endOf", ends[column], 0, 0, column);
        }
        // the last of several reads counts, in whichever order they were added
        x.addRead(0, 0, 1, 0, 3);
        x.addRead(0, 0, 1, 0, 1);
        Check.due(x, "endOf", 3, 0, 0, 0);
        Check.due(x, "endOf", 4, 0, 0, 3);
        x.dropReads(0);
        // reads that come before the cell do not count, nor does the cell's own step
        x.addRead(0, 0, 1, 0, -1);
        x.addRead(0, 0, 1, 0, 0);
        Check.due(x, "endOf", 2, 0, 0, 2);
        Check.due(x, "endOf", 4, 0, 0, 4);
        x.setLasting(0, true);
        Check.due(x, "endOf", 5, 0, 0, 2);
        Check.due(x, "endOf", 5, 0, 0, 4);
        x.setLasting(0, false);
        x.addStatement(0);
        x.addRead(1, 0, 1, 0, -1);
        x.setOffset(1, 1);
        Check.due(x, "endOf", 5, 0, 0, 1);
        Check.due(x, "endOf", 0, 0, 0, 0);
        Check.due(x, "endOf", 5, 1, 0, 0);
        // the very first cell reads, too
        x.dropReads(1);
        x.addRead(0, 1, 1, 0, -1);
        x.setOffset(0, 9);
        Check.due(x, "endOf", 5, 1, 0, 1);
        Check.due(x, "endOf", 0, 1, 0, 0);
        Check.throwsAndChangesNothing(x, "IndexOutOfBoundsException",
            Check.call("endOf", 2, 0, 0), Check.call("endOf", -1, 0, 0), Check.call("endOf", 0, 1, 0),
            Check.call("endOf", 0, -1, 0), Check.call("endOf", 0, 0, 5), Check.call("endOf", 0, 0, -1));
    }

    private static void promise17LiveAt() {
        CellWindows x = row();
        int[] live = {0, 1, 2, 2, 1};
        for (int step = 0; step < 5; step++) {
            Check.due(x, "liveAt", live[step], step);
        }
        x.addStatement(1);
        x.setLasting(1, true);
        x.setOffset(1, 1);
        Check.due(x, "liveAt", 0, 5);
        Check.due(x, "liveAt", 4, 9);
        x.setOffset(0, 2);
        Check.due(x, "liveAt", 5, 5);
        Check.due(x, "liveAt", 7, 7);
        Check.due(x, "liveAt", 6, 9);
        Check.throwsAndChangesNothing(x, "IndexOutOfBoundsException",
            Check.call("liveAt", -1), Check.call("liveAt", 10));
    }

    private static void promise18And19MostLive() {
        CellWindows x = row();
        Check.due(x, "mostLive", 2);
        Check.due(x, "mostLiveOf", 2, 0);
        x.addStatement(1);
        x.setLasting(1, true);
        Check.due(x, "mostLiveOf", 4, 1);
        Check.due(x, "mostLive", 4);
        x.setOffset(0, 1);
        Check.due(x, "mostLiveOf", 5, 1);
        Check.due(x, "mostLiveOf", 2, 0);
        Check.due(x, "mostLive", 7);
        x.dropReads(0);
        Check.due(x, "mostLiveOf", 0, 0);
        x.setLasting(1, false);
        Check.due(x, "mostLive", 0);
        x.setField(1, 2);
        x.setLasting(0, true);
        x.setOffset(0, 0);
        Check.due(x, "mostLive", 2);
        x.setOffset(0, 30);
        Check.due(x, "mostLive", 1);
        Check.due(x, "mostLiveOf", 1, 0);
        Check.throwsAndChangesNothing(x, "IndexOutOfBoundsException",
            Check.call("mostLiveOf", -1), Check.call("mostLiveOf", 2));
    }

    private static void mostThereCanBe() {
        CellWindows x = new CellWindows();
        x.setField(8, 8);
        for (int statement = 0; statement < 4; statement++) {
            x.addStatement(1);
            x.setLasting(statement, true);
        }
        Check.due(x, "mostLive", 255);
        Check.due(x, "mostLiveOf", 63, 3);
        Check.due(x, "mostLiveOf", 64, 0);
        Check.due(x, "liveAt", 255, 255);
    }

    private static void promise20ConflictsOf() {
        CellWindows x = row();
        // cell 1 is born within the life of 0 and has 2 born within its own; its birth at 2 ends cell 0
        Check.due(x, "conflictsOf", 1, 0, 0, 0, 0);
        Check.due(x, "conflictsOf", 2, 0, 0, 1, 0);
        Check.due(x, "conflictsOf", 2, 0, 0, 2, 0);
        Check.due(x, "conflictsOf", 1, 0, 0, 3, 0);
        Check.due(x, "conflictsOf", 0, 0, 0, 4, 0);
        x.addStatement(1);
        x.setSchedule(0, 1);
        // steps 0 2 4 6 8 and 1 3 5 7 9; the first statement's cells live for four steps
        Check.due(x, "conflictsOf", 2, 0, 0, 0, 1);
        Check.due(x, "conflictsOf", 0, 0, 0, 4, 1);
        Check.due(x, "conflictsOf", 1, 1, 0, 0, 0);
        Check.due(x, "conflictsOf", 2, 1, 0, 1, 0);
        Check.due(x, "conflictsOf", 0, 1, 0, 4, 0);
        Check.due(x, "conflictsOf", 0, 1, 0, 0, 1);
        x.addStatement(1);
        x.setLasting(2, true);
        // steps 0 3 6 .. now, and the third statement's cells are in everyone's way from then on
        Check.due(x, "conflictsOf", 2, 0, 0, 0, 1);
        Check.due(x, "conflictsOf", 1, 0, 0, 0, 0);
        Check.due(x, "conflictsOf", 2, 0, 0, 0, 2);
        Check.due(x, "conflictsOf", 4, 1, 0, 4, 2);
        Check.due(x, "conflictsOf", 4, 2, 0, 4, 2);
        Check.throwsAndChangesNothing(x, "IndexOutOfBoundsException",
            Check.call("conflictsOf", 3, 0, 0, 0), Check.call("conflictsOf", -1, 0, 0, 0),
            Check.call("conflictsOf", 0, 1, 0, 0), Check.call("conflictsOf", 0, 0, 5, 0),
            Check.call("conflictsOf", 0, -1, 0, 0), Check.call("conflictsOf", 0, 0, -1, 0),
            Check.call("conflictsOf", 0, 0, 0, 3), Check.call("conflictsOf", 0, 0, 0, -1));
    }

    private static void promise21ConflictPairs() {
        CellWindows x = row();
        Check.due(x, "conflictPairs", 3, 0);
        x.addStatement(1);
        Check.due(x, "conflictPairs", 0, 1);
        x.setLasting(1, true);
        x.setOffset(1, 9);
        Check.due(x, "conflictPairs", 3, 0);
        x.setOffset(1, 0);
        x.setOffset(0, 9);
        // the second statement's cells live on while those of the first are born, which does not count here
        Check.due(x, "conflictPairs", 3, 0);
        Check.due(x, "conflictPairs", 10, 1);
        x.setField(8, 8);
        Check.due(x, "conflictPairs", 2016, 1);
        x.setField(1, 1);
        Check.due(x, "conflictPairs", 0, 1);
        Check.throwsAndChangesNothing(x, "IndexOutOfBoundsException",
            Check.call("conflictPairs", -1), Check.call("conflictPairs", 2));
    }

    public static void main(String[] arguments) {
        promise16EndOf();
        promise17LiveAt();
        promise18And19MostLive();
        mostThereCanBe();
        promise20ConflictsOf();
        promise21ConflictPairs();
        Check.finish();
    }
}
