/** Wrap-arounds: values modulo 9973, border values modulo 100, places modulo the moduli of the windows. */
public final class EdgeWrapTests {
    /** The third statement's value is its addend, 9 and 9 and 2 times 990, and 99: 19899 more than the addend. */
    private static CellWindows twice(int addend) {
        CellWindows x = Made.field(1, 1, 99, 99, addend, 0);
        x.addRead(1, 0, 9, 0, 0);
        x.addRead(2, 1, 9, 0, 0);
        x.addRead(2, 1, 9, 0, 0);
        x.addRead(2, 1, 2, 0, 0);
        x.addRead(2, 0, 1, 0, 0);
        x.addRead(3, 2, 3, 0, 0);
        return x;
    }

    /** The third statement's value is its addend, and 9 and 1 times 990: 9900 more than the addend. */
    private static CellWindows once(int addend) {
        CellWindows x = Made.field(1, 1, 99, 99, addend, 0);
        x.addRead(1, 0, 9, 0, 0);
        x.addRead(2, 1, 9, 0, 0);
        x.addRead(2, 1, 1, 0, 0);
        x.addRead(3, 2, 3, 0, 0);
        return x;
    }

    private static void sumModulo9973(String call) {
        Check.due(once(0), call, 9900, 2, 0, 0);
        Check.due(once(72), call, 9972, 2, 0, 0);
        Check.due(once(73), call, 0, 2, 0, 0);
        Check.due(once(74), call, 1, 2, 0, 0);
        Check.due(twice(46), call, 9972, 2, 0, 0);
        Check.due(twice(47), call, 0, 2, 0, 0);
        Check.due(twice(48), call, 1, 2, 0, 0);
        // what is read is the rest: three times 9972 is 2 * 9973 and 9970
        Check.due(once(72), call, 9970, 3, 0, 0);
        Check.due(once(73), call, 0, 3, 0, 0);
        Check.due(twice(48), call, 3, 3, 0, 0);
    }

    /** Each cell is 99 and 36 times the one on its left: without a rest on the way the sums would leave the ints. */
    private static void longChain(String call) {
        CellWindows x = Made.field(8, 8, 99);
        for (int read = 0; read < 4; read++) {
            x.addRead(0, 0, 9, 0, 1);
        }
        long value = 93;
        for (int column = 0; column < 8; column++) {
            value = (99 + 36 * value) % 9973;
            Check.due(x, call, value, 0, 0, column);
        }
        // all cells in one line
        x.dropReads(0);
        x.setField(1, 8);
        for (int read = 0; read < 4; read++) {
            x.addRead(0, 0, 9, 0, read % 2 + 1);
        }
        long[] values = new long[10];
        values[0] = 86;
        values[1] = 93;
        for (int column = 0; column < 8; column++) {
            values[column + 2] = (99 + 18 * values[column + 1] + 18 * values[column]) % 9973;
            Check.due(x, call, values[column + 2], 0, 0, column);
        }
    }

    private static void promise38SumModulo() {
        sumModulo9973("valueOf");
        longChain("valueOf");
        Check.due(once(73), "firstWrongStep", -1);
    }

    private static void promise39SumModulo() {
        sumModulo9973("contractedValueOf");
        longChain("contractedValueOf");
    }

    /** Compares the border value that a statement's cell takes from a source. */
    private static void border(String call, int want, int source, int row, int column, int rowsBack, int columnsBack) {
        CellWindows x = Made.field(8, 8, 0, 0, 0, 0);
        x.addRead(3, source, 1, rowsBack, columnsBack);
        Check.due(x, call, want, 3, row, column);
    }

    private static void borderModulo100(String call) {
        // 5 * 7 + 7 * 9 + 0, 1, 2, 3: 98, 99, 100, 101
        border(call, 98, 0, 7, 7, 0, -2);
        border(call, 99, 1, 7, 7, 0, -2);
        border(call, 0, 2, 7, 7, 0, -2);
        border(call, 1, 3, 7, 7, 0, -2);
        // the greatest one: 5 * 7 + 7 * 10 + 3
        border(call, 8, 3, 7, 7, 0, -3);
    }

    private static void borderNeverNegative(String call) {
        // 5 * 4 - 7 * 3 + 0, 1, 2: -1, 0, 1
        border(call, 99, 0, 4, 0, 0, 3);
        border(call, 0, 1, 4, 0, 0, 3);
        border(call, 1, 2, 4, 0, 0, 3);
        // the row alone is negative, then the column alone, then both: -5, -7, and the least one, -15 - 21
        border(call, 95, 0, 0, 0, 1, 0);
        border(call, 93, 0, 0, 0, 0, 1);
        border(call, 64, 0, 0, 0, 3, 3);
        border(call, 67, 3, 0, 0, 3, 3);
        // a negative row and a column on the right: -15 + 70 + 3
        border(call, 58, 3, 0, 7, 3, -3);
        // a negative row that the column makes good: -15 + 14 + 1
        border(call, 0, 1, 0, 2, 3, 0);
    }

    private static void promise38BorderModulo() {
        borderModulo100("valueOf");
    }

    private static void promise39BorderModulo() {
        borderModulo100("contractedValueOf");
    }

    private static void promise38BorderNeverNegative() {
        borderNeverNegative("valueOf");
    }

    private static void promise39BorderNeverNegative() {
        borderNeverNegative("contractedValueOf");
    }

    /** The point beside the last column is outside, not the next row's first one; a smaller field ends earlier. */
    private static void outsideTheField() {
        CellWindows x = Made.field(2, 2, 50, 0);
        x.addRead(1, 0, 1, 0, -1);
        Check.due(x, "valueOf", 50, 1, 0, 0);
        Check.due(x, "valueOf", 14, 1, 0, 1);
        Check.due(x, "valueOf", 19, 1, 1, 1);
        x.dropReads(1);
        x.addRead(1, 0, 1, 0, 1);
        Check.due(x, "valueOf", 98, 1, 1, 0);
        x.setField(2, 1);
        x.dropReads(1);
        x.addRead(1, 0, 1, 0, -1);
        Check.due(x, "valueOf", 7, 1, 0, 0);
        Check.due(x, "valueOf", 12, 1, 1, 0);
    }

    private static void places(CellWindows x, int columns, int... want) {
        for (int line = 0; line < want.length; line++) {
            Check.due(x, "placeOf", want[line], 0, line / columns, line % columns);
        }
    }

    /** Row by row, whatever the shape of the field; steps and places are counted from 0. */
    private static void placeInLine() {
        for (int[] shape : new int[][] {{1, 1}, {1, 8}, {8, 1}, {2, 5}, {5, 2}, {8, 8}}) {
            CellWindows x = Made.field(shape[0], shape[1], 1);
            x.setSchedule(0, 0);
            int last = shape[0] * shape[1] - 1;
            Check.due(x, "placeOf", 0, 0, 0, 0);
            Check.due(x, "pointAt", 0, 0);
            Check.due(x, "placeOf", last, 0, shape[0] - 1, shape[1] - 1);
            Check.due(x, "pointAt", last, last);
            Check.due(x, "placeOf", shape[1] - 1, 0, 0, shape[1] - 1);
            Check.due(x, "placeOf", (shape[0] - 1) * shape[1], 0, shape[0] - 1, 0);
            // column by column the last row's first point comes after those above it
            x.setSchedule(0, 1);
            Check.due(x, "pointAt", (shape[0] - 1) * shape[1], shape[0] - 1);
        }
    }

    private static void promise23Rest() {
        CellWindows x = Made.field(3, 4, 1);
        Check.due(x, "keepRest", 1, 0, 1);
        places(x, 4, 0, 0, 0, 0, 0, 0, 0, 0, 0, 0, 0, 0);
        Check.due(x, "keepRest", 5, 0, 5);
        places(x, 4, 0, 1, 2, 3, 4, 0, 1, 2, 3, 4, 0, 1);
        Check.due(x, "keepRest", 11, 0, 11);
        places(x, 4, 0, 1, 2, 3, 4, 5, 6, 7, 8, 9, 10, 0);
        for (int modulus : new int[] {12, 13, 99}) {
            Check.due(x, "keepRest", modulus, 0, modulus);
            places(x, 4, 0, 1, 2, 3, 4, 5, 6, 7, 8, 9, 10, 11);
        }
    }

    private static void promise24TwoRests() {
        CellWindows x = Made.field(3, 4, 1);
        Check.due(x, "keepTwoRests", 6, 0, 2, 3);
        places(x, 4, 0, 1, 2, 0, 3, 4, 5, 3, 0, 1, 2, 0);
        // as large as the field
        Check.due(x, "keepTwoRests", 12, 0, 3, 4);
        places(x, 4, 0, 1, 2, 3, 4, 5, 6, 7, 8, 9, 10, 11);
        // larger than the field, on one side and on both
        Check.due(x, "keepTwoRests", 10, 0, 2, 5);
        places(x, 4, 0, 1, 2, 3, 5, 6, 7, 8, 0, 1, 2, 3);
        Check.due(x, "keepTwoRests", 12, 0, 4, 3);
        places(x, 4, 0, 1, 2, 0, 3, 4, 5, 3, 6, 7, 8, 6);
        Check.due(x, "keepTwoRests", 9801, 0, 99, 99);
        places(x, 4, 0, 1, 2, 3, 99, 100, 101, 102, 198, 199, 200, 201);
    }

    private static void promise25Slant() {
        CellWindows x = Made.field(3, 4, 1);
        Check.due(x, "keepSlant", 2, 0, 0, 2);
        places(x, 4, 0, 0, 0, 0, 1, 1, 1, 1, 0, 0, 0, 0);
        Check.due(x, "keepSlant", 5, 0, 2, 5);
        places(x, 4, 0, 2, 4, 1, 1, 3, 0, 2, 2, 4, 1, 3);
        // a slant as large as the modulus, and a larger one
        Check.due(x, "keepSlant", 3, 0, 3, 3);
        places(x, 4, 0, 0, 0, 0, 1, 1, 1, 1, 2, 2, 2, 2);
        Check.due(x, "keepSlant", 4, 0, 9, 4);
        places(x, 4, 0, 1, 2, 3, 1, 2, 3, 0, 2, 3, 0, 1);
        // a modulus that the largest place just reaches, and one that it does not
        Check.due(x, "keepSlant", 29, 0, 9, 29);
        places(x, 4, 0, 9, 18, 27, 1, 10, 19, 28, 2, 11, 20, 0);
        Check.due(x, "keepSlant", 30, 0, 9, 30);
        places(x, 4, 0, 9, 18, 27, 1, 10, 19, 28, 2, 11, 20, 29);
    }

    /** Windows of a modulus stay when the field changes; only the place in line does not. */
    private static void promise6WindowsStay() {
        CellWindows x = Made.field(3, 4, 1);
        x.keepRest(0, 5);
        x.setField(2, 3);
        Check.due(x, "windowSize", 5, 0);
        places(x, 3, 0, 1, 2, 3, 4, 0);
        x.keepTwoRests(0, 2, 2);
        x.setField(3, 3);
        Check.due(x, "windowSize", 4, 0);
        places(x, 3, 0, 1, 0, 2, 3, 2, 0, 1, 0);
        x.keepSlant(0, 2, 3);
        x.setField(2, 4);
        Check.due(x, "windowSize", 3, 0);
        places(x, 4, 0, 2, 1, 0, 1, 0, 2, 1);
        // a window that is larger than the field stays as large as it is
        x.keepRest(0, 99);
        x.setField(1, 1);
        Check.due(x, "windowSize", 99, 0);
        x.setField(2, 2);
        Check.due(x, "windowSize", 99, 0);
        Check.due(x, "room", 99);
    }

    /** Nothing but the points changes: addends, reads, offsets, the weights, and what lasts. */
    private static void promise6StatementsAndReadsStay() {
        CellWindows x = Made.telling();
        String before = Check.allAnswers(x);
        Check.due(x, "setField", 1, 1, 1);
        Check.due(x, "steps", 2);
        Check.due(x, "setField", 64, 8, 8);
        Check.due(x, "steps", 128);
        Check.due(x, "setField", 6, 2, 3);
        Check.same("all answers with the field as before", Check.allAnswers(x), before);
        x.setField(3, 2);
        Check.due(x, "isReadInOrder", true, 1, 1);
        Check.due(x, "addRead", 2, 1, 0, 1, 0, 0);
        Check.due(x, "setLasting", true, 0, true);
        Check.due(x, "addStatement", 2, 0);
    }

    private static void promise6WholeGrows() {
        CellWindows x = Made.field(1, 1, 1);
        x.keepRest(0, 7);
        Check.due(x, "keepWhole", 1, 0);
        x.setField(8, 8);
        Check.due(x, "windowSize", 64, 0);
        Check.due(x, "room", 64);
        Check.due(x, "placeOf", 63, 0, 7, 7);
        x.setField(2, 3);
        Check.due(x, "windowSize", 6, 0);
        places(x, 3, 0, 1, 2, 3, 4, 5);
    }

    /** Cells live for two steps, so in turns of three places the third one is the first that may be taken again. */
    private static void promise39Turns() {
        CellWindows x = Made.field(1, 8, 1);
        x.addRead(0, 0, 1, 0, 3);
        // 80 87 94 81 88 95 82 89 without windows
        for (int modulus : new int[] {3, 4, 8, 9, 99}) {
            x.keepRest(0, modulus);
            Check.due(x, "contractedValueOf", 89, 0, 0, 7);
            Check.due(x, "firstWrongStep", -1);
        }
        x.keepRest(0, 2);
        // in two places the fourth cell finds the third, 80 87 94 95, and so on to 95 + 4
        Check.due(x, "contractedValueOf", 95, 0, 0, 3);
        Check.due(x, "contractedValueOf", 99, 0, 0, 7);
        Check.due(x, "valueOf", 89, 0, 0, 7);
        Check.due(x, "firstWrongStep", 3);
        x.keepRest(0, 1);
        Check.due(x, "contractedValueOf", 99, 0, 0, 7);
    }

    public static void main(String[] arguments) {
        Check.sentence("38", "the sum modulo 9973", EdgeWrapTests::promise38SumModulo);
        Check.sentence("39", "the sum modulo 9973", EdgeWrapTests::promise39SumModulo);
        Check.sentence("38", "modulo 100", EdgeWrapTests::promise38BorderModulo);
        Check.sentence("39", "modulo 100", EdgeWrapTests::promise39BorderModulo);
        Check.sentence("38", "never negative", EdgeWrapTests::promise38BorderNeverNegative);
        Check.sentence("39", "never negative", EdgeWrapTests::promise39BorderNeverNegative);
        Check.sentence("38", "Where this point lies outside the field", EdgeWrapTests::outsideTheField);
        Check.sentence("15, 22, 29", "The place in line of a point is i times the number of columns, plus j",
            EdgeWrapTests::placeInLine);
        Check.sentence("23, 29", "at its place in line modulo that modulus", EdgeWrapTests::promise23Rest);
        Check.sentence("24, 29", "(i modulo the first) times the second, plus j modulo the second",
            EdgeWrapTests::promise24TwoRests);
        Check.sentence("25, 29", "(i plus j times the slant) modulo the modulus", EdgeWrapTests::promise25Slant);
        Check.sentence("6", "statements, reads and windows stay", EdgeWrapTests::promise6StatementsAndReadsStay);
        Check.sentence("6, 27, 29", "statements, reads and windows stay (windows)", EdgeWrapTests::promise6WindowsStay);
        Check.sentence("6, 22, 27", "a whole window is as large as the field then", EdgeWrapTests::promise6WholeGrows);
        Check.sentence("38, 39, 40", "overwrites what lies at the place of its own", EdgeWrapTests::promise39Turns);
        Check.finish();
    }
}
