/** Promises 1 to 6: the program. */
public final class ProgramTests {
    private static void promise1NewObject() {
        CellWindows x = new CellWindows();
        Check.due(x, "steps", 0);
        Check.due(x, "mostLive", 0);
        Check.due(x, "room", 0);
        Check.due(x, "contract", 0);
        Check.due(x, "isAllowed", true);
        Check.due(x, "isAllowedWith", true, 9, 9);
        Check.due(x, "firstWrongStep", -1);
        Check.due(x, "windowSize", "throws.IndexOutOfBoundsException", 0);
        Check.due(x, "liveAt", "throws.IndexOutOfBoundsException", 0);
        x.addStatement(0);
        Check.due(x, "steps", 16);
        Check.due(x, "pointAt", 15, 15);
        Check.due(x, "placeOf", 15, 0, 3, 3);
        Check.due(x, "placeOf", 4, 0, 1, 0);
        Check.due(x, "stepOf", "throws.IndexOutOfBoundsException", 0, 4, 0);
        Check.due(x, "stepOf", "throws.IndexOutOfBoundsException", 0, 0, 4);
        // row weight 1, column weight 0: the first statement's upper row comes with the second one's third row
        x.addStatement(0);
        x.setOffset(0, 2);
        Check.due(x, "stepOf", 4, 1, 1, 0);
        Check.due(x, "stepOf", 8, 0, 0, 0);
        Check.due(x, "stepOf", 12, 1, 2, 0);
        Check.due(x, "stepOf", 15, 1, 2, 3);
    }

    private static void promise2AddStatement() {
        CellWindows x = new CellWindows();
        x.setField(1, 2);
        Check.throwsAndChangesNothing(x, "IllegalArgumentException",
            Check.call("addStatement", -1), Check.call("addStatement", 100),
            Check.call("addStatement", Integer.MIN_VALUE), Check.call("addStatement", Integer.MAX_VALUE));
        Check.due(x, "addStatement", 0, 0);
        Check.due(x, "addStatement", 1, 99);
        Check.due(x, "addStatement", 2, 5);
        Check.due(x, "addStatement", 3, 6);
        Check.due(x, "valueOf", 0, 0, 0, 0);
        Check.due(x, "valueOf", 99, 1, 0, 1);
        Check.due(x, "valueOf", 6, 3, 0, 0);
        Check.due(x, "steps", 8);
        Check.due(x, "dropReads", 0, 3);
        Check.due(x, "setLasting", false, 3, false);
        Check.due(x, "windowSize", 2, 3);
        Check.due(x, "stepOf", 6, 3, 0, 0);
        Check.throwsAndChangesNothing(x, "IllegalStateException",
            Check.call("addStatement", 0), Check.call("addStatement", 99));
        Check.due(x, "addStatement", "throws.IllegalArgumentException", 100);
    }

    private static void promise3AddRead() {
        CellWindows x = new CellWindows();
        x.setField(2, 2);
        x.addStatement(10);
        x.addStatement(20);
        Check.due(x, "addRead", 0, 1, 0, 9, 0, 0);
        Check.due(x, "addRead", 1, 1, 1, 1, 3, 3);
        Check.due(x, "addRead", 0, 0, 0, 2, 0, 1);
        Check.due(x, "addRead", 2, 1, 0, 1, 0, -3);
        // 196, 402, 206, 422: 10 and twice the cell on the left, 93 and 98 at the border
        Check.due(x, "valueOf", 402, 0, 0, 1);
        Check.due(x, "valueOf", 422, 0, 1, 1);
        // 20 + 9 * 422 + border (-2, -2) of 1: -23, so 77 + border (1, 4) of 0: 33
        Check.due(x, "valueOf", 20 + 9 * 422 + 77 + 33, 1, 1, 1);
        Check.throwsAndChangesNothing(x, "IndexOutOfBoundsException",
            Check.call("addRead", 2, 0, 1, 0, 0), Check.call("addRead", -1, 0, 1, 0, 0),
            Check.call("addRead", 0, 2, 1, 0, 0), Check.call("addRead", 0, -1, 1, 0, 0),
            Check.call("addRead", 2, 0, 0, 4, 4), Check.call("addRead", 0, 4, 10, -1, -4));
        Check.throwsAndChangesNothing(x, "IllegalArgumentException",
            Check.call("addRead", 0, 0, 0, 0, 0), Check.call("addRead", 0, 0, 10, 0, 0),
            Check.call("addRead", 0, 0, 1, -1, 0), Check.call("addRead", 0, 0, 1, 4, 0),
            Check.call("addRead", 0, 0, 1, 0, -4), Check.call("addRead", 0, 0, 1, 0, 4));
    }

    private static void promise3AtMostFourReads() {
        CellWindows x = new CellWindows();
        x.setField(2, 1);
        x.addStatement(1);
        x.addStatement(2);
        for (int read = 0; read < 4; read++) {
            Check.due(x, "addRead", read, 1, 0, 9, 0, 0);
        }
        Check.due(x, "valueOf", 38, 1, 0, 0);
        Check.throwsAndChangesNothing(x, "IllegalStateException", Check.call("addRead", 1, 0, 1, 0, 0));
        Check.throwsAndChangesNothing(x, "IllegalArgumentException", Check.call("addRead", 1, 0, 10, 0, 0));
        Check.throwsAndChangesNothing(x, "IndexOutOfBoundsException", Check.call("addRead", 1, 2, 1, 0, 0));
        Check.due(x, "addRead", 0, 0, 1, 1, 0, 0);
    }

    private static void promise4DropReads() {
        CellWindows x = new CellWindows();
        x.setField(1, 3);
        x.addStatement(1);
        x.addStatement(2);
        x.addRead(0, 0, 1, 0, 1);
        x.addRead(0, 0, 1, 0, 2);
        x.addRead(1, 0, 1, 0, 0);
        Check.throwsAndChangesNothing(x, "IndexOutOfBoundsException",
            Check.call("dropReads", 2), Check.call("dropReads", -1));
        Check.due(x, "dropReads", 2, 0);
        Check.due(x, "dropReads", 0, 0);
        Check.due(x, "valueOf", 1, 0, 0, 2);
        Check.due(x, "valueOf", 3, 1, 0, 2);
        Check.due(x, "isReadInOrder", "throws.IndexOutOfBoundsException", 0, 0);
        Check.due(x, "isReadInOrder", true, 1, 0);
        Check.due(x, "addRead", 0, 0, 0, 1, 0, 1);
        Check.due(x, "dropReads", 1, 1);
    }

    private static void promise5SetLasting() {
        CellWindows x = new CellWindows();
        x.setField(1, 3);
        x.addStatement(1);
        x.addStatement(2);
        Check.throwsAndChangesNothing(x, "IndexOutOfBoundsException",
            Check.call("setLasting", 2, true), Check.call("setLasting", -1, true));
        Check.due(x, "setLasting", false, 0, true);
        Check.due(x, "setLasting", true, 0, true);
        Check.due(x, "endOf", 6, 0, 0, 0);
        Check.due(x, "endOf", 3, 1, 0, 0);
        Check.due(x, "setLasting", false, 1, false);
        Check.due(x, "setLasting", true, 0, false);
        Check.due(x, "setLasting", false, 0, false);
        Check.due(x, "endOf", 0, 0, 0, 0);
    }

    private static void promise6SetField() {
        CellWindows x = new CellWindows();
        x.addStatement(1);
        x.addStatement(2);
        x.addRead(0, 0, 1, 1, 0);
        x.keepTwoRests(1, 3, 5);
        Check.due(x, "setField", 1, 1, 1);
        Check.throwsAndChangesNothing(x, "IllegalArgumentException",
            Check.call("setField", 0, 1), Check.call("setField", 9, 1), Check.call("setField", 1, 0),
            Check.call("setField", 1, 9), Check.call("setField", -1, -1), Check.call("setField", 3, 9));
        Check.due(x, "steps", 2);
        Check.due(x, "windowSize", 1, 0);
        Check.due(x, "setField", 64, 8, 8);
        Check.due(x, "windowSize", 64, 0);
        Check.due(x, "windowSize", 15, 1);
        Check.due(x, "steps", 128);
        Check.due(x, "setField", 6, 2, 3);
        Check.due(x, "windowSize", 6, 0);
        Check.due(x, "placeOf", 5, 0, 1, 2);
        Check.due(x, "placeOf", 7, 1, 1, 2);
        Check.due(x, "isReadInOrder", true, 0, 0);
        // read by the cell below, after the second statement's upper row
        Check.due(x, "endOf", 7, 0, 0, 1);
        Check.due(x, "stepOf", "throws.IndexOutOfBoundsException", 0, 2, 0);
        Check.due(x, "stepOf", "throws.IndexOutOfBoundsException", 0, 0, 3);
    }

    public static void main(String[] arguments) {
        promise1NewObject();
        promise2AddStatement();
        promise3AddRead();
        promise3AtMostFourReads();
        promise4DropReads();
        promise5SetLasting();
        promise6SetField();
        Check.finish();
    }
}
