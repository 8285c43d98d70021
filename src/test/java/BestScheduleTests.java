/** Promises 41 to 43: the schedule with the least room. */
public final class BestScheduleTests {
    private static void best(CellWindows x, int rowWeight, int columnWeight, int room) {
        Check.due(x, "bestRowWeight", rowWeight);
        Check.due(x, "bestColumnWeight", columnWeight);
        Check.due(x, "bestRoom", room);
    }

    private static void noneAllowed(CellWindows x) {
        Check.throwsAndChangesNothing(x, "IllegalStateException",
            Check.call("bestRowWeight"), Check.call("bestColumnWeight"), Check.call("bestRoom"));
    }

    private static void withoutStatementsOrReads() {
        CellWindows x = new CellWindows();
        best(x, 0, 0, 0);
        x.addStatement(1);
        x.addStatement(1);
        x.setSchedule(3, 3);
        best(x, 0, 0, 2);
    }

    private static void columnByColumn() {
        CellWindows x = new CellWindows();
        x.setField(3, 3);
        x.addStatement(1);
        x.addRead(0, 0, 1, 1, 0);
        best(x, 0, 1, 1);
        x.dropReads(0);
        x.addRead(0, 0, 1, 0, 1);
        best(x, 0, 0, 1);
        x.setLasting(0, true);
        best(x, 0, 0, 9);
    }

    private static void promises41To43() {
        CellWindows x = twoInTurn();
        x.setOffset(1, 2);
        // allowed from row weight 3 on, with room 4, 3, 3 and 4
        String before = Check.allAnswers(x);
        best(x, 3, 1, 3);
        Check.same("all answers after the search", Check.allAnswers(x), before);
        x.setOffset(1, 3);
        Check.due(x, "isAllowedWith", true, 4, 0);
        noneAllowed(x);
    }

    /** The same along the columns: allowed from column weight 3 on, with room 6, 4, 4 and 3. */
    private static void largestWeights() {
        CellWindows x = new CellWindows();
        x.setField(2, 2);
        x.addStatement(1);
        x.addStatement(1);
        x.addRead(0, 1, 1, 0, 1);
        x.addRead(1, 0, 1, 0, 0);
        x.setOffset(1, 2);
        best(x, 3, 3, 3);
    }

    /** The second statement reads the first, which reads the second one's row above. */
    private static CellWindows twoInTurn() {
        CellWindows x = new CellWindows();
        x.setField(2, 2);
        x.addStatement(1);
        x.addStatement(1);
        x.addRead(0, 1, 1, 1, 0);
        x.addRead(1, 0, 1, 0, 0);
        return x;
    }

    private static void neverAllowed() {
        CellWindows x = new CellWindows();
        x.setField(1, 2);
        x.addStatement(1);
        x.addRead(0, 0, 1, 0, -1);
        noneAllowed(x);
        x.setField(2, 1);
        best(x, 0, 0, 1);
    }

    /** A schedule that needs least but is not allowed is passed over. */
    private static void onlyAllowedOnes() {
        CellWindows x = new CellWindows();
        x.setField(3, 3);
        x.addStatement(1);
        x.addRead(0, 0, 1, 1, 0);
        x.addRead(0, 0, 1, 1, -1);
        Check.due(x, "isAllowedWith", false, 0, 1);
        best(x, 0, 0, 3);
    }

    public static void main(String[] arguments) {
        withoutStatementsOrReads();
        columnByColumn();
        promises41To43();
        largestWeights();
        neverAllowed();
        onlyAllowedOnes();
        Check.finish();
    }
}
