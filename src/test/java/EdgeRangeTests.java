/** Too small, too large: each range that the document names, the last numbers in it and the next ones outside. */
public final class EdgeRangeTests {
    /** Stands for the number that is tried. */
    private static final String TRIED = "tried";

    /** All numbers from low to high are taken; the next ones are refused, and so are the least and the greatest int. */
    private static void range(int low, int high, Object... call) {
        for (int number = low; number <= high; number++) {
            Check.taken(Made.telling(), with(number, call));
        }
        for (int number : new int[] {low - 1, high + 1, Integer.MIN_VALUE, Integer.MAX_VALUE}) {
            Check.refused(Made::telling, "IllegalArgumentException", with(number, call));
        }
    }

    private static Object[] with(int number, Object... call) {
        Object[] tried = call.clone();
        for (int i = 0; i < tried.length; i++) {
            tried[i] = TRIED.equals(call[i]) ? (Object) number : call[i];
        }
        return tried;
    }

    private static void promise2Addend() {
        range(0, 99, "addStatement", TRIED);
        CellWindows x = Made.field(1, 1);
        Check.due(x, "addStatement", 0, 0);
        Check.due(x, "addStatement", 1, 99);
        Check.due(x, "valueOf", 0, 0, 0, 0);
        Check.due(x, "valueOf", 99, 1, 0, 0);
    }

    private static void promise3Source() {
        CellWindows x = Made.field(1, 1, 1, 10);
        // the statement itself, a later one, and an earlier one
        Check.due(x, "addRead", 0, 0, 1, 1, 0, 0);
        Check.due(x, "addRead", 0, 1, 1, 1, 0, 0);
        Check.due(x, "addRead", 1, 1, 0, 1, 0, 0);
        Check.due(x, "valueOf", 1, 0, 0, 0);
        Check.due(x, "valueOf", 11, 1, 0, 0);
        for (int source : new int[] {-1, 2, 3, 4, Integer.MIN_VALUE, Integer.MAX_VALUE}) {
            Check.refused(Made::telling, "IndexOutOfBoundsException", Check.call("addRead", 0, source, 1, 0, 0));
        }
    }

    private static void promise3Factor() {
        range(1, 9, "addRead", 0, 1, TRIED, 1, 0);
        CellWindows x = Made.field(1, 1, 10, 0, 0);
        x.addRead(1, 0, 1, 0, 0);
        x.addRead(2, 0, 9, 0, 0);
        Check.due(x, "valueOf", 10, 1, 0, 0);
        Check.due(x, "valueOf", 90, 2, 0, 0);
    }

    private static void promise3RowsBack() {
        range(0, 3, "addRead", 0, 1, 1, TRIED, 0);
        // the second statement's rows come at the steps 1, 3, 5 and 7
        CellWindows x = Made.field(4, 1, 1, 1);
        x.addRead(1, 0, 1, 0, 0);
        Check.due(x, "endOf", 1, 0, 0, 0);
        x.addRead(1, 0, 1, 3, 0);
        Check.due(x, "endOf", 7, 0, 0, 0);
        Check.due(x, "endOf", 3, 0, 1, 0);
    }

    private static void promise3ColumnsBack() {
        range(-3, 3, "addRead", 0, 1, 1, 1, TRIED);
        // the second statement's columns come at the steps 4, 5, 6 and 7
        CellWindows x = Made.field(1, 4, 1, 1);
        x.addRead(1, 0, 1, 0, -3);
        Check.due(x, "endOf", 4, 0, 0, 3);
        Check.due(x, "endOf", 0, 0, 0, 0);
        x.dropReads(1);
        x.addRead(1, 0, 1, 0, 3);
        Check.due(x, "endOf", 3, 0, 0, 3);
        Check.due(x, "endOf", 7, 0, 0, 0);
    }

    private static void promise6Rows() {
        range(1, 8, "setField", TRIED, 3);
        CellWindows x = Made.field(4, 4, 1);
        Check.due(x, "setField", 3, 1, 3);
        Check.due(x, "stepOf", 2, 0, 0, 2);
        Check.due(x, "stepOf", "throws.IndexOutOfBoundsException", 0, 1, 0);
        Check.due(x, "setField", 24, 8, 3);
        Check.due(x, "stepOf", 23, 0, 7, 2);
        Check.due(x, "stepOf", "throws.IndexOutOfBoundsException", 0, 8, 0);
    }

    private static void promise6Columns() {
        range(1, 8, "setField", 2, TRIED);
        CellWindows x = Made.field(4, 4, 1);
        Check.due(x, "setField", 3, 3, 1);
        Check.due(x, "stepOf", 2, 0, 2, 0);
        Check.due(x, "stepOf", "throws.IndexOutOfBoundsException", 0, 0, 1);
        Check.due(x, "setField", 24, 3, 8);
        Check.due(x, "stepOf", 23, 0, 2, 7);
        Check.due(x, "stepOf", "throws.IndexOutOfBoundsException", 0, 0, 8);
    }

    /** The second statement begins at the offset, the first one's next cell comes at the weight; it wins at a tie. */
    private static void weightIs(int weight, CellWindows x, int row, int column) {
        if (weight > 0) {
            x.setOffset(1, weight - 1);
            Check.due(x, "stepOf", 1, 1, 0, 0);
            Check.due(x, "stepOf", 2, 0, row, column);
        }
        x.setOffset(1, weight);
        Check.due(x, "stepOf", 1, 0, row, column);
        Check.due(x, "stepOf", 2, 1, 0, 0);
    }

    private static void promise7RowWeight() {
        range(0, 9, "setSchedule", TRIED, 5);
        CellWindows x = Made.field(2, 1, 1, 1);
        Check.due(x, "setSchedule", true, 0, 5);
        weightIs(0, x, 1, 0);
        Check.due(x, "setSchedule", true, 9, 5);
        weightIs(9, x, 1, 0);
    }

    private static void promise7ColumnWeight() {
        range(0, 9, "setSchedule", 5, TRIED);
        CellWindows x = Made.field(1, 2, 1, 1);
        Check.due(x, "setSchedule", true, 5, 0);
        weightIs(0, x, 0, 1);
        Check.due(x, "setSchedule", true, 5, 9);
        weightIs(9, x, 0, 1);
    }

    private static void promise8Offset() {
        range(0, 30, "setOffset", 1, TRIED);
        // the first statement's times are 0 1, 5 6, .. 30 31, 35 36
        CellWindows x = Made.field(8, 2, 1, 1);
        x.setSchedule(5, 1);
        Check.due(x, "setOffset", true, 1, 30);
        Check.due(x, "stepOf", 12, 0, 6, 0);
        Check.due(x, "stepOf", 13, 1, 0, 0);
        Check.due(x, "stepOf", 14, 0, 6, 1);
        Check.due(x, "setOffset", true, 1, 0);
        Check.due(x, "stepOf", 1, 1, 0, 0);
    }

    private static void promise10RowWeight() {
        range(0, 9, "isAllowedWith", TRIED, 5);
        // the cell above is written 8 later, or 9, and one row weight earlier
        CellWindows x = Made.field(2, 1, 1, 1);
        x.addRead(0, 1, 1, 1, 0);
        x.setOffset(1, 8);
        Check.due(x, "isAllowedWith", true, 9, 0);
        Check.due(x, "isAllowedWith", false, 8, 0);
        Check.due(x, "isAllowedWith", false, 0, 9);
        x.setOffset(1, 9);
        Check.due(x, "isAllowedWith", false, 9, 0);
        x.setOffset(1, 0);
        Check.due(x, "isAllowedWith", false, 0, 9);
        x.setOffset(0, 1);
        Check.due(x, "isAllowedWith", true, 0, 0);
    }

    private static void promise10ColumnWeight() {
        range(0, 9, "isAllowedWith", 5, TRIED);
        CellWindows x = Made.field(1, 2, 1, 1);
        x.addRead(0, 1, 1, 0, 1);
        x.setOffset(1, 8);
        Check.due(x, "isAllowedWith", true, 0, 9);
        Check.due(x, "isAllowedWith", false, 0, 8);
        Check.due(x, "isAllowedWith", false, 9, 0);
        x.setOffset(1, 9);
        Check.due(x, "isAllowedWith", false, 0, 9);
        x.setOffset(1, 0);
        Check.due(x, "isAllowedWith", false, 9, 0);
        x.setOffset(0, 1);
        Check.due(x, "isAllowedWith", true, 0, 0);
    }

    private static void promise23Modulus() {
        range(1, 99, "keepRest", 0, TRIED);
        CellWindows x = Made.field(8, 8, 1);
        Check.due(x, "keepRest", 1, 0, 1);
        Check.due(x, "placeOf", 0, 0, 7, 7);
        Check.due(x, "keepRest", 99, 0, 99);
        Check.due(x, "windowSize", 99, 0);
        Check.due(x, "placeOf", 63, 0, 7, 7);
    }

    private static void promise24RowModulus() {
        range(1, 99, "keepTwoRests", 0, TRIED, 5);
        CellWindows x = Made.field(8, 8, 1);
        Check.due(x, "keepTwoRests", 5, 0, 1, 5);
        Check.due(x, "placeOf", 2, 0, 7, 7);
        Check.due(x, "keepTwoRests", 495, 0, 99, 5);
        Check.due(x, "placeOf", 37, 0, 7, 7);
    }

    private static void promise24ColumnModulus() {
        range(1, 99, "keepTwoRests", 0, 5, TRIED);
        CellWindows x = Made.field(8, 8, 1);
        Check.due(x, "keepTwoRests", 5, 0, 5, 1);
        Check.due(x, "placeOf", 2, 0, 7, 7);
        Check.due(x, "keepTwoRests", 495, 0, 5, 99);
        Check.due(x, "placeOf", 205, 0, 7, 7);
        Check.due(x, "keepTwoRests", 9801, 0, 99, 99);
        Check.due(x, "placeOf", 700, 0, 7, 7);
    }

    private static void promise25Slant() {
        range(0, 9, "keepSlant", 0, TRIED, 5);
        CellWindows x = Made.field(8, 8, 1);
        Check.due(x, "keepSlant", 99, 0, 0, 99);
        Check.due(x, "placeOf", 7, 0, 7, 7);
        Check.due(x, "keepSlant", 99, 0, 9, 99);
        Check.due(x, "placeOf", 70, 0, 7, 7);
    }

    private static void promise25Modulus() {
        range(1, 99, "keepSlant", 0, 5, TRIED);
        CellWindows x = Made.field(8, 8, 1);
        Check.due(x, "keepSlant", 1, 0, 9, 1);
        Check.due(x, "placeOf", 0, 0, 7, 7);
        Check.due(x, "keepSlant", 99, 0, 9, 99);
        Check.due(x, "windowSize", 99, 0);
    }

    public static void main(String[] arguments) {
        Check.sentence("2", "addend: 0 to 99", EdgeRangeTests::promise2Addend);
        Check.sentence("3", "source: the statement whose cells are read", EdgeRangeTests::promise3Source);
        Check.sentence("3", "factor: 1 to 9", EdgeRangeTests::promise3Factor);
        Check.sentence("3", "rowsBack: 0 to 3", EdgeRangeTests::promise3RowsBack);
        Check.sentence("3", "columnsBack: -3 to 3", EdgeRangeTests::promise3ColumnsBack);
        Check.sentence("6", "rows: 1 to 8", EdgeRangeTests::promise6Rows);
        Check.sentence("6", "columns: 1 to 8", EdgeRangeTests::promise6Columns);
        Check.sentence("7", "rowWeight: 0 to 9", EdgeRangeTests::promise7RowWeight);
        Check.sentence("7", "columnWeight: 0 to 9", EdgeRangeTests::promise7ColumnWeight);
        Check.sentence("8", "offset: 0 to 30", EdgeRangeTests::promise8Offset);
        Check.sentence("10", "rowWeight: 0 to 9", EdgeRangeTests::promise10RowWeight);
        Check.sentence("10", "columnWeight: 0 to 9", EdgeRangeTests::promise10ColumnWeight);
        Check.sentence("23", "Moduli are 1 to 99", EdgeRangeTests::promise23Modulus);
        Check.sentence("24", "Moduli are 1 to 99 (the first)", EdgeRangeTests::promise24RowModulus);
        Check.sentence("24", "Moduli are 1 to 99 (the second)", EdgeRangeTests::promise24ColumnModulus);
        Check.sentence("25", "slants 0 to 9", EdgeRangeTests::promise25Slant);
        Check.sentence("25", "Moduli are 1 to 99", EdgeRangeTests::promise25Modulus);
        Check.finish();
    }
}
