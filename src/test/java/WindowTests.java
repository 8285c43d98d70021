/** Promises 22 to 30: windows. */
public final class WindowTests {
    private static CellWindows small() {
        CellWindows x = new CellWindows();
        x.setField(2, 3);
        x.addStatement(1);
        x.addStatement(2);
        x.addRead(0, 0, 1, 1, 0);
        return x;
    }

    private static void places(CellWindows x, int statement, int... want) {
        for (int line = 0; line < want.length; line++) {
            Check.due(x, "placeOf", want[line], statement, line / 3, line % 3);
        }
    }

    private static void promise22KeepWhole() {
        CellWindows x = small();
        x.keepRest(0, 2);
        Check.throwsAndChangesNothing(x, "IndexOutOfBoundsException",
            Check.call("keepWhole", -1), Check.call("keepWhole", 2));
        Check.due(x, "keepWhole", 6, 0);
        Check.due(x, "windowSize", 6, 0);
        places(x, 0, 0, 1, 2, 3, 4, 5);
        x.setField(8, 7);
        Check.due(x, "keepWhole", 56, 1);
    }

    private static void promise23KeepRest() {
        CellWindows x = small();
        Check.due(x, "keepRest", 4, 0, 4);
        Check.due(x, "windowSize", 4, 0);
        Check.due(x, "windowSize", 6, 1);
        places(x, 0, 0, 1, 2, 3, 0, 1);
        Check.due(x, "keepRest", 99, 0, 99);
        places(x, 0, 0, 1, 2, 3, 4, 5);
        Check.due(x, "keepRest", 1, 0, 1);
        places(x, 0, 0, 0, 0, 0, 0, 0);
        Check.throwsAndChangesNothing(x, "IllegalArgumentException",
            Check.call("keepRest", 0, 0), Check.call("keepRest", 0, 100), Check.call("keepRest", 1, -1));
        Check.refused(WindowTests::small, "IndexOutOfBoundsException",
            Check.call("keepRest", -1, 1), Check.call("keepRest", 2, 1), Check.call("keepRest", 2, 0));
    }

    private static void promise24KeepTwoRests() {
        CellWindows x = small();
        Check.due(x, "keepTwoRests", 2, 0, 1, 2);
        places(x, 0, 0, 1, 0, 0, 1, 0);
        Check.due(x, "keepTwoRests", 10, 0, 2, 5);
        places(x, 0, 0, 1, 2, 5, 6, 7);
        Check.due(x, "keepTwoRests", 9801, 0, 99, 99);
        places(x, 0, 0, 1, 2, 99, 100, 101);
        Check.due(x, "contractedValueOf", 2, 1, 1, 2);
        Check.throwsAndChangesNothing(x, "IllegalArgumentException",
            Check.call("keepTwoRests", 0, 0, 1), Check.call("keepTwoRests", 0, 100, 1),
            Check.call("keepTwoRests", 0, 1, 0), Check.call("keepTwoRests", 0, 1, 100));
        Check.refused(WindowTests::small, "IndexOutOfBoundsException",
            Check.call("keepTwoRests", -1, 1, 1), Check.call("keepTwoRests", 2, 1, 1),
            Check.call("keepTwoRests", 2, 0, 0));
    }

    private static void promise25KeepSlant() {
        CellWindows x = small();
        Check.due(x, "keepSlant", 4, 0, 2, 4);
        places(x, 0, 0, 2, 0, 1, 3, 1);
        Check.due(x, "keepSlant", 3, 0, 0, 3);
        places(x, 0, 0, 0, 0, 1, 1, 1);
        Check.due(x, "keepSlant", 99, 0, 9, 99);
        places(x, 0, 0, 9, 18, 1, 10, 19);
        Check.due(x, "keepSlant", 1, 0, 9, 1);
        Check.throwsAndChangesNothing(x, "IllegalArgumentException",
            Check.call("keepSlant", 0, -1, 1), Check.call("keepSlant", 0, 10, 1),
            Check.call("keepSlant", 0, 0, 0), Check.call("keepSlant", 0, 0, 100));
        Check.refused(WindowTests::small, "IndexOutOfBoundsException",
            Check.call("keepSlant", -1, 0, 1), Check.call("keepSlant", 2, 0, 1), Check.call("keepSlant", 2, 10, 0));
    }

    private static void promise26Contract() {
        CellWindows x = small();
        Check.due(x, "contract", 4);
        Check.due(x, "windowSize", 3, 0);
        Check.due(x, "windowSize", 1, 1);
        Check.due(x, "room", 4);
        // on a field of one point the whole window comes first
        x.setField(1, 1);
        Check.due(x, "contract", 2);
        x.setField(2, 2);
        Check.due(x, "room", 8);
        contractToTwoRests();
        contractToRestFirst();
        contractToSlant();
        contractToWholeFirst();
    }

    /** Column by column: cells live for three steps, so 4 places by the line, but 3 by the rows. */
    private static void contractToTwoRests() {
        CellWindows x = new CellWindows();
        x.setField(3, 3);
        x.addStatement(1);
        x.addRead(0, 0, 1, 0, 1);
        x.setSchedule(0, 1);
        Check.due(x, "leastRest", 4, 0);
        Check.due(x, "leastSlantModulus", 3, 0);
        Check.due(x, "contract", 3);
        // as large as the slant window of 0 and 3, and named before it; it is two-rest 3 by 1 on any field
        x.setField(8, 8);
        Check.due(x, "placeOf", 0, 0, 3, 1);
        Check.due(x, "placeOf", 2, 0, 2, 3);
        Check.due(x, "placeOf", 1, 0, 7, 7);
        contractToOneByTwo();
    }

    /** Along the diagonals: two columns take turns in 2 places, where rest and slant windows need 3. */
    private static void contractToOneByTwo() {
        CellWindows x = new CellWindows();
        x.setField(2, 3);
        x.addStatement(1);
        x.addRead(0, 0, 1, 1, 0);
        x.setSchedule(1, 1);
        Check.due(x, "contract", 2);
        places(x, 0, 0, 1, 0, 0, 1, 0);
        Check.due(x, "isRight", true, 0);
        Check.due(x, "firstWrongStep", -1);
    }

    private static void contractToRestFirst() {
        CellWindows x = new CellWindows();
        x.setField(3, 3);
        x.addStatement(1);
        x.addRead(0, 0, 1, 1, 0);
        // 3 places by rest, and by two rests of 1 and 3: rest is named first, as the place in line shows
        Check.due(x, "contract", 3);
        x.setField(3, 4);
        Check.due(x, "placeOf", 1, 0, 1, 0);
    }

    /** Only the first cell lives on; the cells beside and below it may share the other place of a slant window. */
    private static void contractToSlant() {
        CellWindows x = new CellWindows();
        x.setField(2, 2);
        x.addStatement(1);
        x.addRead(0, 0, 1, 1, 1);
        Check.due(x, "contract", 2);
        Check.due(x, "isRight", true, 0);
        Check.due(x, "firstWrongStep", -1);
        x.setField(2, 3);
        places(x, 0, 0, 1, 0, 1, 0, 1);
    }

    private static void contractToWholeFirst() {
        CellWindows x = new CellWindows();
        x.setField(2, 2);
        x.addStatement(1);
        x.setLasting(0, true);
        x.keepTwoRests(0, 9, 9);
        // all four kinds need four places; the whole window grows with the field
        Check.due(x, "contract", 4);
        x.setField(8, 8);
        Check.due(x, "windowSize", 64, 0);
    }

    private static void promise27And28WindowSizeAndRoom() {
        CellWindows x = small();
        Check.due(x, "windowSize", 6, 0);
        Check.due(x, "room", 12);
        x.keepTwoRests(0, 99, 99);
        x.keepSlant(1, 3, 7);
        Check.due(x, "windowSize", 9801, 0);
        Check.due(x, "windowSize", 7, 1);
        Check.due(x, "room", 9808);
        x.addStatement(0);
        Check.due(x, "room", 9814);
        Check.throwsAndChangesNothing(x, "IndexOutOfBoundsException",
            Check.call("windowSize", -1), Check.call("windowSize", 3));
    }

    private static void promise29PlaceOf() {
        CellWindows x = small();
        places(x, 1, 0, 1, 2, 3, 4, 5);
        x.setSchedule(0, 1);
        places(x, 1, 0, 1, 2, 3, 4, 5);
        Check.throwsAndChangesNothing(x, "IndexOutOfBoundsException",
            Check.call("placeOf", 2, 0, 0), Check.call("placeOf", -1, 0, 0), Check.call("placeOf", 0, 2, 0),
            Check.call("placeOf", 0, -1, 0), Check.call("placeOf", 0, 0, 3), Check.call("placeOf", 0, 0, -1));
    }

    private static void promise30IsRight() {
        CellWindows x = small();
        // cells of the upper row live for three steps, so cells one and two apart are in conflict
        Check.due(x, "isRight", true, 0);
        x.keepRest(0, 3);
        Check.due(x, "isRight", true, 0);
        x.keepRest(0, 2);
        Check.due(x, "isRight", false, 0);
        x.keepTwoRests(0, 1, 3);
        Check.due(x, "isRight", true, 0);
        x.keepTwoRests(0, 9, 2);
        Check.due(x, "isRight", false, 0);
        x.keepSlant(0, 1, 3);
        Check.due(x, "isRight", false, 0);
        x.keepSlant(0, 2, 5);
        Check.due(x, "isRight", true, 0);
        x.keepRest(1, 1);
        Check.due(x, "isRight", true, 1);
        x.setLasting(1, true);
        Check.due(x, "isRight", false, 1);
        x.keepWhole(1);
        Check.due(x, "isRight", true, 1);
        Check.throwsAndChangesNothing(x, "IndexOutOfBoundsException",
            Check.call("isRight", -1), Check.call("isRight", 2));
    }

    public static void main(String[] arguments) {
        promise22KeepWhole();
        promise23KeepRest();
        promise24KeepTwoRests();
        promise25KeepSlant();
        promise26Contract();
        promise27And28WindowSizeAndRoom();
        promise29PlaceOf();
        promise30IsRight();
        Check.finish();
    }
}
