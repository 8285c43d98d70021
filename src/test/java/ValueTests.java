/** Promises 38 to 40: values. */
public final class ValueTests {
    private static CellWindows row(int columns, int addend) {
        CellWindows x = new CellWindows();
        x.setField(1, columns);
        x.addStatement(addend);
        return x;
    }

    private static void promise38ValueOf() {
        CellWindows x = row(8, 99);
        x.addRead(0, 0, 9, 0, 1);
        Check.due(x, "valueOf", 99 + 9 * 93, 0, 0, 0);
        Check.due(x, "valueOf", 8523, 0, 0, 1);
        Check.due(x, "valueOf", 76806 - 7 * 9973, 0, 0, 2);
        x.addRead(0, 0, 9, 0, 2);
        // a sum of several reads: 99 + 9 * 93 + 9 * 86, then 99 + 9 * 1710 + 9 * 93
        Check.due(x, "valueOf", 1710, 0, 0, 0);
        Check.due(x, "valueOf", 16326 - 9973, 0, 0, 1);
        x.keepRest(0, 1);
        Check.due(x, "valueOf", 16326 - 9973, 0, 0, 1);
        Check.throwsAndChangesNothing(x, "IndexOutOfBoundsException", wrongPoints("valueOf"));
    }

    private static Object[][] wrongPoints(String call) {
        return new Object[][] {
            Check.call(call, -1, 0, 0), Check.call(call, 1, 0, 0), Check.call(call, 0, -1, 0),
            Check.call(call, 0, 1, 0), Check.call(call, 0, 0, -1), Check.call(call, 0, 0, 8),
        };
    }

    private static void borderValues() {
        CellWindows x = new CellWindows();
        x.setField(8, 8);
        for (int statement = 0; statement < 4; statement++) {
            x.addStatement(0);
        }
        x.addRead(0, 3, 1, 0, -3);
        x.addRead(1, 2, 1, 3, 3);
        x.addRead(2, 2, 1, 3, 0);
        // 5 * 7 + 7 * 10 + 3 modulo 100, 5 * 0 + 7 * 8 + 3
        Check.due(x, "valueOf", 8, 0, 7, 7);
        Check.due(x, "valueOf", 59, 0, 0, 5);
        // -15 - 21 + 2, 5 * 4 - 7 + 2, -15 + 49 + 2
        Check.due(x, "valueOf", 66, 1, 0, 0);
        Check.due(x, "valueOf", 15, 1, 7, 2);
        Check.due(x, "valueOf", 36, 2, 0, 7);
    }

    private static void unwrittenCellsAreZero() {
        CellWindows x = row(3, 1);
        x.addRead(0, 0, 1, 0, -1);
        Check.due(x, "valueOf", 1, 0, 0, 0);
        Check.due(x, "valueOf", 1, 0, 0, 1);
        Check.due(x, "valueOf", 1 + 21, 0, 0, 2);
        x.keepRest(0, 1);
        // the first cell finds nothing at the place, the second one finds the first
        Check.due(x, "contractedValueOf", 1, 0, 0, 0);
        Check.due(x, "contractedValueOf", 2, 0, 0, 1);
        Check.due(x, "contractedValueOf", 22, 0, 0, 2);
        Check.due(x, "contractedValueOf", 1, 0, 0, 0);
        Check.due(x, "firstWrongStep", 1);
        Check.due(x, "firstWrongStep", 1);
        x.dropReads(0);
        x.addRead(0, 0, 2, 0, 0);
        Check.due(x, "valueOf", 1, 0, 0, 2);
        Check.due(x, "contractedValueOf", 7, 0, 0, 2);
    }

    private static void promise39ContractedValueOf() {
        CellWindows x = row(8, 1);
        x.addRead(0, 0, 1, 0, 2);
        // 87 94 88 95; in one place the third cell finds the second: 87 94 95 96
        Check.due(x, "contractedValueOf", 88, 0, 0, 2);
        x.keepRest(0, 1);
        Check.due(x, "valueOf", 88, 0, 0, 2);
        Check.due(x, "contractedValueOf", 94, 0, 0, 1);
        Check.due(x, "contractedValueOf", 95, 0, 0, 2);
        Check.due(x, "contractedValueOf", 96, 0, 0, 3);
        x.keepRest(0, 2);
        Check.due(x, "contractedValueOf", 88, 0, 0, 2);
        x.keepTwoRests(0, 5, 1);
        Check.due(x, "contractedValueOf", 95, 0, 0, 2);
        x.keepSlant(0, 9, 2);
        Check.due(x, "contractedValueOf", 88, 0, 0, 2);
        x.keepSlant(0, 9, 9);
        Check.due(x, "contractedValueOf", 95, 0, 0, 2);
        Check.throwsAndChangesNothing(x, "IndexOutOfBoundsException", wrongPoints("contractedValueOf"));
    }

    /** Windows of two statements are apart, even where their places have the same numbers. */
    private static void windowsOfTwoStatements() {
        CellWindows x = row(4, 1);
        x.addStatement(50);
        x.addRead(0, 0, 1, 0, 1);
        x.keepRest(0, 1);
        x.keepRest(1, 1);
        x.setSchedule(0, 1);
        Check.due(x, "contractedValueOf", 97, 0, 0, 3);
        Check.due(x, "contractedValueOf", 50, 1, 0, 3);
        Check.due(x, "firstWrongStep", -1);
    }

    private static void farPlaces() {
        CellWindows x = new CellWindows();
        x.setField(8, 8);
        x.addStatement(1);
        x.addRead(0, 0, 1, 1, 1);
        x.keepTwoRests(0, 99, 99);
        Check.due(x, "placeOf", 700, 0, 7, 7);
        Check.due(x, "contractedValueOf", 8 + 88, 0, 7, 7);
        Check.due(x, "firstWrongStep", -1);
    }

    private static void promise40FirstWrongStep() {
        CellWindows x = row(4, 1);
        Check.due(x, "firstWrongStep", -1);
        x.addRead(0, 0, 1, 0, 2);
        x.keepRest(0, 1);
        Check.due(x, "firstWrongStep", 2);
        x.addStatement(9);
        x.setOffset(0, 1);
        Check.due(x, "firstWrongStep", 6);
        x.setSchedule(0, 1);
        // steps of the first statement are now 1 3 5 7, with one of the second at 0
        Check.due(x, "firstWrongStep", 5);
        x.keepRest(0, 2);
        Check.due(x, "firstWrongStep", -1);
        x.dropReads(0);
        x.setLasting(0, true);
        x.keepRest(0, 1);
        // a wrong window that nobody reads does no harm
        Check.due(x, "isRight", false, 0);
        Check.due(x, "firstWrongStep", -1);
        Check.due(new CellWindows(), "firstWrongStep", -1);
    }

    public static void main(String[] arguments) {
        promise38ValueOf();
        borderValues();
        unwrittenCellsAreZero();
        promise39ContractedValueOf();
        windowsOfTwoStatements();
        farPlaces();
        promise40FirstWrongStep();
        Check.finish();
    }
}
