/** Where several are equal: which comes first, and which one is taken. */
public final class EdgeTieTests {
    /** The steps in their order: statement and place in line of each. */
    private static void order(CellWindows x, int columns, int[]... want) {
        for (int step = 0; step < want.length; step++) {
            Check.due(x, "statementAt", want[step][0], step);
            Check.due(x, "pointAt", want[step][1], step);
            Check.due(x, "stepOf", step, want[step][0], want[step][1] / columns, want[step][1] % columns);
        }
    }

    private static int[] at(int statement, int point) {
        return new int[] {statement, point};
    }

    /** The second statement comes first, and the lower row on the left before the upper one on the right. */
    private static void earlierTimes() {
        CellWindows x = Made.field(2, 2, 1, 1);
        x.setSchedule(0, 1);
        x.setOffset(0, 5);
        order(x, 2, at(1, 0), at(1, 2), at(1, 1), at(1, 3), at(0, 0), at(0, 2), at(0, 1), at(0, 3));
        x.setOffset(0, 1);
        order(x, 2, at(1, 0), at(1, 2), at(0, 0), at(0, 2), at(1, 1), at(1, 3), at(0, 1), at(0, 3));
    }

    /** At time 2 the first statement's last row, or column, comes before the second one's first. */
    private static void lowerStatement() {
        CellWindows x = Made.field(3, 1, 1, 1);
        x.setOffset(1, 2);
        order(x, 1, at(0, 0), at(0, 1), at(0, 2), at(1, 0), at(1, 1), at(1, 2));
        x.setField(1, 3);
        x.setSchedule(0, 1);
        order(x, 3, at(0, 0), at(0, 1), at(0, 2), at(1, 0), at(1, 1), at(1, 2));
        x.setOffset(1, 1);
        order(x, 3, at(0, 0), at(0, 1), at(1, 0), at(0, 2), at(1, 1), at(1, 2));
        x.setSchedule(0, 0);
        x.setOffset(1, 0);
        order(x, 3, at(0, 0), at(0, 1), at(0, 2), at(1, 0), at(1, 1), at(1, 2));
    }

    private static void upperRow() {
        CellWindows x = Made.field(3, 3, 1);
        x.setSchedule(1, 1);
        order(x, 3, at(0, 0), at(0, 1), at(0, 3), at(0, 2), at(0, 4), at(0, 6), at(0, 5), at(0, 7), at(0, 8));
        x.setSchedule(0, 1);
        order(x, 3, at(0, 0), at(0, 3), at(0, 6), at(0, 1), at(0, 4), at(0, 7), at(0, 2), at(0, 5), at(0, 8));
    }

    private static void leftColumn() {
        CellWindows x = Made.field(2, 3, 1);
        for (int rowWeight = 0; rowWeight <= 1; rowWeight++) {
            x.setSchedule(rowWeight, 0);
            order(x, 3, at(0, 0), at(0, 1), at(0, 2), at(0, 3), at(0, 4), at(0, 5));
        }
    }

    /** Whether one read is in order, and whether the schedule is allowed, told in all three ways. */
    private static void inOrder(boolean want, int statement, int source, int rowsBack, int columnsBack, int offset) {
        CellWindows x = Made.field(4, 4, 1, 1);
        x.setSchedule(0, 0);
        x.setOffset(source, offset);
        x.addRead(statement, source, 1, rowsBack, columnsBack);
        Check.due(x, "isReadInOrder", want, statement, 0);
        Check.due(x, "isAllowed", want);
        Check.due(x, "isAllowedWith", want, 0, 0);
        Check.due(x, "setSchedule", want, 0, 0);
        Check.due(x, "setOffset", want, source, offset);
    }

    /** All times are equal: only the place in the order of steps tells what comes later. */
    private static void laterAtEqualTimes() {
        inOrder(true, 1, 0, 0, 0, 0);
        inOrder(true, 1, 0, 0, -3, 0);
        inOrder(false, 0, 1, 0, 0, 0);
        inOrder(false, 0, 1, 3, 3, 0);
        inOrder(true, 0, 0, 1, -3, 0);
        inOrder(true, 0, 0, 0, 1, 0);
        inOrder(false, 0, 0, 0, 0, 0);
        inOrder(false, 0, 0, 0, -1, 0);
        // one later in time is too late for a lower source, too
        inOrder(false, 1, 0, 0, 0, 1);
    }

    /** The cell above is written the offset later and the row weight earlier; at equal times it comes too late. */
    private static CellWindows above(int rowWeight, int offset) {
        CellWindows x = Made.field(2, 2, 1, 1);
        x.addRead(0, 1, 1, 1, 0);
        x.setOffset(1, offset);
        x.setSchedule(rowWeight, 0);
        return x;
    }

    private static void promise7AllowedThen() {
        CellWindows x = above(5, 5);
        Check.due(x, "setSchedule", true, 6, 0);
        Check.due(x, "isAllowed", true);
        Check.due(x, "setSchedule", false, 5, 0);
        Check.due(x, "isAllowed", false);
        Check.due(x, "setSchedule", false, 0, 9);
        Check.due(x, "setSchedule", true, 9, 9);
    }

    private static void promise8AllowedThen() {
        CellWindows x = above(5, 5);
        Check.due(x, "setOffset", true, 1, 4);
        Check.due(x, "isAllowed", true);
        Check.due(x, "setOffset", false, 1, 5);
        Check.due(x, "isAllowed", false);
        Check.due(x, "setOffset", true, 0, 1);
        Check.due(x, "setOffset", false, 1, 6);
        Check.due(x, "setOffset", true, 1, 0);
    }

    private static void promise10OtherWeights() {
        CellWindows x = above(5, 5);
        Check.due(x, "isAllowedWith", true, 6, 0);
        Check.due(x, "isAllowedWith", true, 6, 9);
        Check.due(x, "isAllowedWith", false, 5, 9);
        // the weights stay as they are: both at time 5
        Check.due(x, "isAllowed", false);
        Check.due(x, "stepOf", 2, 0, 1, 0);
        Check.due(x, "stepOf", 4, 1, 0, 0);
    }

    private static void contractsTo(CellWindows x, int places) {
        Check.due(x, "contract", places);
        Check.due(x, "windowSize", places, 0);
        Check.due(x, "isRight", true, 0);
    }

    private static void least(CellWindows x, int rest, int twoRests, int slant) {
        Check.due(x, "leastRest", rest, 0);
        Check.same("the two-rest window's places",
            String.valueOf(x.leastRowRest(0) * x.leastColumnRest(0)), String.valueOf(twoRests));
        Check.due(x, "leastSlantModulus", slant, 0);
    }

    /** All four kinds need all places; the whole window alone grows with the field. */
    private static void promise26WholeFirst() {
        CellWindows x = Made.lasting(2, 2);
        x.keepSlant(0, 9, 99);
        least(x, 4, 4, 4);
        contractsTo(x, 4);
        x.setField(2, 3);
        Check.due(x, "windowSize", 6, 0);
        CellWindows one = Made.field(1, 1, 1);
        one.keepRest(0, 9);
        least(one, 1, 1, 1);
        contractsTo(one, 1);
        one.setField(1, 2);
        Check.due(one, "windowSize", 2, 0);
        // what was kept before does not count, be it smaller or larger
        CellWindows wrong = Made.lasting(2, 2);
        wrong.keepRest(0, 1);
        contractsTo(wrong, 4);
        wrong.keepTwoRests(0, 1, 3);
        contractsTo(wrong, 4);
        wrong.setField(2, 3);
        Check.due(wrong, "windowSize", 6, 0);
    }

    /** Two places in each of the three kinds. On the larger fields a two-rest or a slant window would answer 0 or 1. */
    private static void promise26RestBeforeBoth() {
        CellWindows x = Made.reading(1, 3, 0, 2);
        least(x, 2, 2, 2);
        contractsTo(x, 2);
        x.setField(2, 3);
        Check.due(x, "placeOf", 1, 0, 1, 0);
        x.setField(2, 4);
        Check.due(x, "placeOf", 0, 0, 1, 0);
    }

    /** Cells in conflict lie one column apart, or a row and two columns: 1 in line each; two rests of 1 and 3. */
    private static void promise26RestBeforeSlant() {
        CellWindows x = Made.reading(2, 3, 1, -1);
        least(x, 2, 3, 2);
        contractsTo(x, 2);
        x.setField(2, 4);
        Check.due(x, "placeOf", 0, 0, 1, 0);
    }

    private static void promise26RestBeforeTwoRests() {
        CellWindows x = Made.reading(2, 2, 1, 0);
        least(x, 2, 2, 3);
        contractsTo(x, 2);
        x.setField(2, 3);
        Check.due(x, "placeOf", 1, 0, 1, 0);
    }

    /** Column by column: two rests of 2 and 2, and slant 2 modulo 4. */
    private static CellWindows columnByColumn() {
        CellWindows x = Made.reading(2, 3, 0, 2);
        x.setSchedule(0, 1);
        return x;
    }

    private static void promise26TwoRestsBeforeSlant() {
        CellWindows x = columnByColumn();
        least(x, 5, 4, 4);
        contractsTo(x, 4);
        Check.due(x, "placeOf", 1, 0, 0, 1);
        Check.due(x, "placeOf", 2, 0, 1, 0);
    }

    /** Where they are not equal the smallest is taken, whichever kind it is. */
    private static void promise26Smallest() {
        CellWindows rest = Made.reading(3, 4, 1, 2);
        rest.setSchedule(1, 1);
        least(rest, 6, 12, 7);
        contractsTo(rest, 6);
        CellWindows twoRests = Made.reading(2, 3, 1, 0);
        twoRests.setSchedule(1, 1);
        least(twoRests, 3, 2, 3);
        contractsTo(twoRests, 2);
        Check.due(twoRests, "placeOf", 0, 0, 1, 0);
        CellWindows slant = Made.reading(2, 2, 1, 1);
        least(slant, 3, 4, 2);
        contractsTo(slant, 2);
        Check.due(slant, "placeOf", 0, 0, 1, 1);
    }

    /** Cells in conflict lie 1 and 3 apart in line: 2 places do, 3 don't, and 4 do again. */
    private static void promise31LeastOne() {
        CellWindows x = Made.reading(2, 3, 1, 1);
        x.setSchedule(0, 1);
        Check.due(x, "leastRest", 2, 0);
        Check.due(x, "leastJointRest", 2, 0, 0);
        boolean[] right = {false, true, false, true};
        for (int modulus = 1; modulus <= 4; modulus++) {
            x.keepRest(0, modulus);
            Check.due(x, "isRight", right[modulus - 1], 0);
        }
    }

    private static void promise32SameModulus() {
        CellWindows x = Made.reading(2, 3, 1, 1);
        x.setSchedule(0, 1);
        Check.due(x, "leastRestByDifferences", 2, 0);
        // differences 1 to 4
        Check.due(columnByColumn(), "leastRestByDifferences", 5, 0);
        // the difference 2 alone, which 1 divides; and 1 and 4, which 2 divides
        CellWindows two = Made.reading(3, 2, 2, 0);
        two.setSchedule(0, 1);
        Check.due(two, "leastRestByDifferences", 3, 0);
        CellWindows four = Made.reading(2, 4, 1, 1);
        four.setSchedule(0, 1);
        Check.due(four, "leastRestByDifferences", 3, 0);
    }

    /** Cells in conflict lie one column apart, one row, or two rows and two columns: 2 by 3 is right, and 3 by 2. */
    private static void promise33LeastRowModulus() {
        CellWindows x = Made.reading(3, 3, 2, -1);
        for (int[] moduli : new int[][] {{2, 3}, {3, 2}}) {
            x.keepTwoRests(0, moduli[0], moduli[1]);
            Check.due(x, "isRight", true, 0);
        }
        for (int[] moduli : new int[][] {{1, 3}, {2, 2}, {3, 1}, {1, 6}, {6, 1}, {1, 99}, {99, 1}}) {
            x.keepTwoRests(0, moduli[0], moduli[1]);
            Check.due(x, "isRight", false, 0);
        }
        Check.due(x, "leastRowRest", 2, 0);
    }

    private static void promise34ItsColumnModulus() {
        Check.due(Made.reading(3, 3, 2, -1), "leastColumnRest", 3, 0);
    }

    /** All cells in conflict: no modulus can be less, and none need be more. */
    private static void promise33MostModuli() {
        for (int rows = 1; rows <= 8; rows++) {
            for (int columns = 1; columns <= 8; columns++) {
                CellWindows x = Made.lasting(rows, columns);
                Check.due(x, "leastRowRest", rows, 0);
                Check.due(x, "leastColumnRest", columns, 0);
            }
        }
    }

    /** Fewest places come before the least row modulus: 3 by 1 is less than 2 by 2. */
    private static CellWindows threeByOne() {
        CellWindows x = Made.reading(3, 2, 0, 1);
        x.setSchedule(0, 1);
        return x;
    }

    private static void promise33FewestPlaces() {
        Check.due(threeByOne(), "leastRowRest", 3, 0);
        Check.due(threeByOne(), "leastColumnRest", 1, 0);
        // along the diagonals 1 by 3 is right, but 2 by 1 has fewer places
        CellWindows x = Made.reading(2, 3, 0, 1);
        x.setSchedule(1, 1);
        x.keepTwoRests(0, 1, 3);
        Check.due(x, "isRight", true, 0);
        Check.due(x, "leastRowRest", 2, 0);
        Check.due(x, "leastColumnRest", 1, 0);
    }

    /** Slants 1, 3, 5, 7 and 9 modulo 2 are right. */
    private static CellWindows oddSlants() {
        return Made.reading(1, 3, 0, 2);
    }

    private static void promise36LeastSlant() {
        CellWindows x = oddSlants();
        for (int slant = 0; slant <= 9; slant++) {
            x.keepSlant(0, slant, 2);
            Check.due(x, "isRight", slant % 2 == 1, 0);
        }
        Check.due(x, "leastSlant", 1, 0);
        // modulo 6: 2, 4 and 8
        Check.due(Made.lasting(2, 3), "leastSlant", 2, 0);
        // modulo 8: all of them
        Check.due(Made.lasting(8, 1), "leastSlant", 0, 0);
        Check.due(Made.field(4, 4, 1), "leastSlant", 0, 0);
    }

    /** Fewest places come before the least slant: on one row slant 0 is right modulo no number. */
    private static void promise35FewestPlaces() {
        Check.due(oddSlants(), "leastSlantModulus", 2, 0);
        Check.due(Made.lasting(2, 3), "leastSlantModulus", 6, 0);
        // slant 0 modulo 3, the rows; other slants would do modulo 4
        Check.due(threeByOne(), "leastSlantModulus", 3, 0);
        Check.due(threeByOne(), "leastSlant", 0, 0);
        // slant 2 modulo 5 is right, but slant 3 modulo 4 has fewer places
        CellWindows x = Made.reading(2, 3, 1, 0);
        x.keepSlant(0, 2, 5);
        Check.due(x, "isRight", true, 0);
        Check.due(x, "leastSlantModulus", 4, 0);
        Check.due(x, "leastSlant", 3, 0);
    }

    /** Cells live for two rows of five: the greatest slant, 9 modulo 11, is the only one with so few places. */
    private static void promise35GreatestSlant() {
        CellWindows x = Made.reading(3, 5, 2, 0);
        for (int slant = 0; slant <= 9; slant++) {
            x.keepSlant(0, slant, 11);
            Check.due(x, "isRight", slant == 9, 0);
        }
        Check.due(x, "leastSlantModulus", 11, 0);
        Check.due(x, "leastSlant", 9, 0);
    }

    /** The rooms by row weight: 5 4 4 4, 3 3 2 2, 3 2 3 2, 3 2 2 3. */
    private static CellWindows manyBest() {
        CellWindows x = Made.field(2, 2, 1, 1);
        x.addRead(1, 0, 1, 0, 0);
        return x;
    }

    private static void manyBestRooms() {
        int[] rooms = {5, 4, 4, 4, 3, 3, 2, 2, 3, 2, 3, 2, 3, 2, 2, 3};
        CellWindows x = manyBest();
        for (int tried = 0; tried < 16; tried++) {
            x.setSchedule(tried / 4, tried % 4);
            Check.same("room with " + tried / 4 + ", " + tried % 4,
                String.valueOf(x.leastRest(0) + x.leastRest(1)), String.valueOf(rooms[tried]));
        }
    }

    private static void promise41LeastRowWeight() {
        manyBestRooms();
        Check.due(manyBest(), "bestRowWeight", 1);
    }

    private static void promise42LeastColumnWeight() {
        Check.due(manyBest(), "bestColumnWeight", 2);
    }

    private static void promise43Room() {
        Check.due(manyBest(), "bestRoom", 2);
    }

    private static void best(CellWindows x, int rowWeight, int columnWeight, int room) {
        Check.due(x, "bestRowWeight", rowWeight);
        Check.due(x, "bestColumnWeight", columnWeight);
        Check.due(x, "bestRoom", room);
    }

    /** Each schedule needs the same: the first one is the best. */
    private static void promises41To43AllEqual() {
        best(Made.field(2, 2, 1, 1), 0, 0, 2);
        best(Made.lasting(2, 2), 0, 0, 4);
        // the schedule that was set stays
        CellWindows x = Made.field(2, 2, 1, 1);
        x.setSchedule(3, 2);
        best(x, 0, 0, 2);
        Check.due(x, "stepOf", 4, 0, 1, 0);
        x.setOffset(1, 3);
        Check.due(x, "stepOf", 3, 1, 0, 0);
    }

    /** The second statement begins 2 or 3 later: in two places from row weight 3 on, or from 4 on. */
    private static void promises41To43WeightsUpTo3() {
        CellWindows x = Made.field(2, 1, 1, 1);
        x.addRead(1, 0, 1, 0, 0);
        x.setOffset(1, 2);
        best(x, 3, 0, 2);
        x.setOffset(1, 3);
        best(x, 0, 0, 3);
        x.setSchedule(4, 0);
        Check.due(x, "leastRest", 1, 0);
        x.setField(1, 2);
        x.setOffset(1, 2);
        best(x, 0, 3, 2);
        x.setOffset(1, 3);
        best(x, 0, 0, 3);
    }

    /** Column by column one place would do, but the cell above on the right would come too late. */
    private static void promises41To43AllowedOnes() {
        CellWindows x = Made.field(3, 3, 1);
        x.addRead(0, 0, 1, 1, 0);
        x.addRead(0, 0, 1, 1, -1);
        x.setSchedule(0, 1);
        Check.due(x, "isAllowed", false);
        Check.due(x, "leastRest", 1, 0);
        best(x, 0, 0, 3);
    }

    public static void main(String[] arguments) {
        Check.sentence("13, 14, 15", "earlier times first", EdgeTieTests::earlierTimes);
        Check.sentence("13, 14, 15", "at equal times the lower statement", EdgeTieTests::lowerStatement);
        Check.sentence("13, 14, 15", "then the upper row", EdgeTieTests::upperRow);
        Check.sentence("13, 14, 15", "then the left column", EdgeTieTests::leftColumn);
        Check.sentence("7 to 11", "at a later step than the writing of the cell it reads",
            EdgeTieTests::laterAtEqualTimes);
        Check.sentence("7", "whether the schedule is allowed then", EdgeTieTests::promise7AllowedThen);
        Check.sentence("8", "whether the schedule is allowed then", EdgeTieTests::promise8AllowedThen);
        Check.sentence("10", "with other weights, and the offsets as they are", EdgeTieTests::promise10OtherWeights);
        String kinds = "of equally small ones the kind that is named first";
        Check.sentence("26", kinds + " (whole)", EdgeTieTests::promise26WholeFirst);
        Check.sentence("26", kinds + " (rest)", EdgeTieTests::promise26RestBeforeBoth);
        Check.sentence("26", kinds + " (rest before slant)", EdgeTieTests::promise26RestBeforeSlant);
        Check.sentence("26", kinds + " (rest before two-rest)", EdgeTieTests::promise26RestBeforeTwoRests);
        Check.sentence("26", kinds + " (two-rest before slant)", EdgeTieTests::promise26TwoRestsBeforeSlant);
        Check.sentence("26", "the smallest", EdgeTieTests::promise26Smallest);
        Check.sentence("31", "the least modulus", EdgeTieTests::promise31LeastOne);
        Check.sentence("32", "the least one that divides no difference", EdgeTieTests::promise32SameModulus);
        Check.sentence("33, 34", "at most the rows and the columns of the field", EdgeTieTests::promise33MostModuli);
        Check.sentence("33", "of several the one with the least row modulus", EdgeTieTests::promise33LeastRowModulus);
        Check.sentence("34", "the column modulus of that window", EdgeTieTests::promise34ItsColumnModulus);
        Check.sentence("33, 34", "the one with the fewest places", EdgeTieTests::promise33FewestPlaces);
        Check.sentence("36", "of several the one with the least slant", EdgeTieTests::promise36LeastSlant);
        Check.sentence("35, 36", "the one with the fewest places", EdgeTieTests::promise35FewestPlaces);
        Check.sentence("35, 36", "slants 0 to 9", EdgeTieTests::promise35GreatestSlant);
        Check.sentence("41", "of several the one with the least row weight", EdgeTieTests::promise41LeastRowWeight);
        Check.sentence("42", "then with the least column weight", EdgeTieTests::promise42LeastColumnWeight);
        Check.sentence("43", "with that schedule", EdgeTieTests::promise43Room);
        Check.sentence("41 to 43", "of several, all equal", EdgeTieTests::promises41To43AllEqual);
        Check.sentence("41 to 43", "with weights 0 to 3", EdgeTieTests::promises41To43WeightsUpTo3);
        Check.sentence("41 to 43", "of all allowed ones", EdgeTieTests::promises41To43AllowedOnes);
        Check.finish();
    }
}
