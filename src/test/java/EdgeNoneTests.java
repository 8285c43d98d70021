/** One that may be none: no joint modulus, no wrong step. */
public final class EdgeNoneTests {
    /** Each cell of the first statement is read by the second one's cell at the same point, or so much further on. */
    private static CellWindows pair(int columnsBack, int offset) {
        CellWindows x = Made.field(1, 8, 1, 1);
        x.addRead(1, 0, 1, 0, columnsBack);
        x.setSchedule(0, 1);
        x.setOffset(1, offset);
        return x;
    }

    private static void joint(CellWindows x, int want) {
        Check.due(x, "leastJointRest", want, 0, 1);
        Check.due(x, "leastJointRest", want, 1, 0);
    }

    private static void promise37NoneUpTo99() {
        // read at once: no cell of either is in another one's way
        joint(pair(0, 0), 1);
        // read one further on: the second statement's cell at the same point is in the way, in any window
        joint(pair(1, 0), -1);
        CellWindows all = Made.field(1, 1, 1, 1);
        joint(all, 1);
        all.setLasting(0, true);
        joint(all, -1);
        all.setOffset(0, 1);
        joint(all, 1);
        all.setLasting(1, true);
        joint(all, -1);
        // one pair at the same point is enough: the first cell alone lives on, while the second statement's are born
        CellWindows first = Made.field(4, 4, 1, 1, 1);
        first.addRead(2, 0, 1, 3, 3);
        first.setSchedule(0, 0);
        Check.due(first, "conflictsOf", 1, 1, 0, 0, 0);
        joint(first, -1);
        // when the second statement comes last, it meets its own statement's other cells alone: 1 to 15 apart in line
        first.setOffset(1, 1);
        joint(first, 16);
    }

    /** The greatest that there is: the second statement is over before the lasting one begins. */
    private static void promise37Greatest() {
        CellWindows x = Made.lasting(8, 8);
        x.addStatement(1);
        x.setOffset(0, 30);
        joint(x, 64);
        x.setField(8, 7);
        joint(x, 56);
        // when it comes after the lasting one it meets it at all points
        x.setOffset(0, 0);
        x.setOffset(1, 30);
        joint(x, -1);
        // the second statement's cells live until the first one's cell two columns on the left, so none meets the one
        // at its own point, but the last one meets the first one: 63 apart, and so for each call
        CellWindows far = Made.field(8, 8, 1, 1);
        far.addRead(0, 1, 1, 0, -2);
        far.setOffset(0, 30);
        far.setOffset(1, 16);
        joint(far, 64);
        joint(far, 64);
    }

    private static void promise37ThreeKindsOfPairs() {
        // of each: the first statement's cells live until the next one, and the second one's left cell is born between
        CellWindows x = Made.reading(1, 4, 0, 1);
        x.addStatement(1);
        x.setSchedule(0, 1);
        x.setOffset(1, 1);
        Check.due(x, "leastRest", 1, 0);
        Check.due(x, "leastRest", 1, 1);
        joint(x, 2);
        // of the one, and of the other one, while none of each is in conflict
        CellWindows turns = Made.lasting(1, 4);
        turns.addStatement(1);
        turns.setSchedule(0, 1);
        turns.setOffset(0, 30);
        Check.due(turns, "leastRest", 4, 0);
        Check.due(turns, "conflictsOf", 0, 0, 0, 0, 1);
        joint(turns, 4);
        Check.due(pair(0, 1), "leastRest", 2, 0);
        joint(pair(0, 1), 2);
    }

    private static void promise37WithItself() {
        CellWindows x = Made.lasting(8, 8);
        x.addStatement(1);
        x.setLasting(1, true);
        Check.due(x, "leastJointRest", 64, 0, 0);
        Check.due(x, "leastJointRest", 64, 1, 1);
        Check.due(x, "leastJointRest", -1, 0, 1);
        x.setLasting(1, false);
        Check.due(x, "leastJointRest", 1, 1, 1);
        CellWindows three = Made.reading(1, 8, 0, 3);
        Check.due(three, "leastRest", 3, 0);
        Check.due(three, "leastJointRest", 3, 0, 0);
    }

    private static void promise40AnswersAlike() {
        Check.due(new CellWindows(), "firstWrongStep", -1);
        CellWindows x = Made.reading(1, 4, 0, 2);
        Check.due(x, "firstWrongStep", -1);
        x.keepRest(0, 2);
        Check.due(x, "firstWrongStep", -1);
        // a window that is not right, but nobody reads what was lost
        x.setLasting(0, true);
        Check.due(x, "isRight", false, 0);
        Check.due(x, "firstWrongStep", -1);
        // what is lost is read, but it was as large as what lies there instead
        CellWindows alike = Made.field(1, 2, 5, 9);
        alike.addRead(1, 0, 1, 0, 0);
        alike.keepRest(0, 1);
        Check.due(alike, "isRight", false, 0);
        Check.due(alike, "firstWrongStep", -1);
    }

    /** What earlier calls put into the places is not there any more: nothing is read on either side. */
    private static void promise40AfterOtherCalls() {
        CellWindows x = Made.reading(1, 4, 0, -1);
        x.valueOf(0, 0, 3);
        Check.due(x, "firstWrongStep", -1);
        x.contractedValueOf(0, 0, 3);
        Check.due(x, "firstWrongStep", -1);
        Check.due(x, "firstWrongStep", -1);
        Check.due(x, "valueOf", 1, 0, 0, 0);
        Check.due(x, "contractedValueOf", 1, 0, 0, 0);
    }

    private static void promise40FirstOne() {
        CellWindows x = Made.reading(1, 4, 0, 2);
        x.keepRest(0, 1);
        // the third cell is the first one that reads what was overwritten, and the fourth does, too
        Check.due(x, "firstWrongStep", 2);
        // the last step alone
        x.setField(1, 3);
        Check.due(x, "firstWrongStep", 2);
        x.setField(1, 2);
        Check.due(x, "firstWrongStep", -1);
        // the second step is the first that can be wrong
        CellWindows early = Made.reading(1, 2, 0, 0);
        early.keepRest(0, 1);
        Check.due(early, "isRight", true, 0);
        Check.due(early, "firstWrongStep", 1);
    }

    /** The steps after a wrong one may be right again: the first wrong one counts, not the last. */
    private static void promise40NotTheLast() {
        CellWindows x = Made.field(1, 4, 1, 3);
        x.addRead(0, 0, 1, 0, 2);
        x.keepRest(0, 1);
        Check.due(x, "firstWrongStep", 2);
        Check.due(x, "steps", 8);
        x.setOffset(0, 1);
        Check.due(x, "firstWrongStep", 6);
    }

    public static void main(String[] arguments) {
        Check.sentence("37", "-1 if there is none up to 99", EdgeNoneTests::promise37NoneUpTo99);
        Check.sentence("37", "Returns the modulus", EdgeNoneTests::promise37Greatest);
        Check.sentence("37", "of the one, of the other one, or one of each, share a place",
            EdgeNoneTests::promise37ThreeKindsOfPairs);
        Check.sentence("37", "leastRest() for a statement and itself", EdgeNoneTests::promise37WithItself);
        Check.sentence("40", "-1 if it answers alike", EdgeNoneTests::promise40AnswersAlike);
        Check.sentence("40", "0 if nothing was ever put there", EdgeNoneTests::promise40AfterOtherCalls);
        Check.sentence("40", "the first step at which the contracted program writes another value",
            EdgeNoneTests::promise40FirstOne);
        Check.sentence("40", "the first step", EdgeNoneTests::promise40NotTheLast);
        Check.finish();
    }
}
