import java.util.Random;

/** Runs of at most 512 drawn calls, right and wrong ones, each answer compared with NaiveCells; the seeds are fixed. */
public final class RandomRunTests {
    private static final int RUNS = 120;
    private static final int CALLS = 500;

    /** Each call with the kinds of its arguments; the calls that build a program stand more than once. */
    private static final String[] CALLS_DRAWN = {
        "addStatement addend", "addStatement addend", "addRead statement statement factor rowsBack columnsBack",
        "addRead statement statement factor rowsBack columnsBack",
        "addRead statement statement factor rowsBack columnsBack", "dropReads statement",
        "setLasting statement flag", "setField side side", "setSchedule weight weight", "setSchedule weight weight",
        "setOffset statement offset", "setOffset statement offset",
        "isAllowed", "isAllowedWith weight weight", "isReadInOrder statement read", "isReadInOrder statement read",
        "steps", "stepOf statement point point", "statementAt step", "pointAt step",
        "endOf statement point point", "endOf statement point point", "liveAt step", "liveAt step", "mostLive",
        "mostLiveOf statement", "conflictsOf statement point point statement",
        "conflictsOf statement point point statement", "conflictPairs statement",
        "keepWhole statement", "keepRest statement modulus", "keepTwoRests statement modulus modulus",
        "keepSlant statement slant modulus", "contract", "windowSize statement", "room",
        "placeOf statement point point", "placeOf statement point point", "isRight statement",
        "isRight statement", "leastRest statement", "leastRestByDifferences statement", "leastRowRest statement",
        "leastColumnRest statement", "leastSlantModulus statement", "leastSlant statement",
        "leastJointRest statement statement", "leastJointRest statement statement",
        "valueOf statement point point", "valueOf statement point point",
        "contractedValueOf statement point point", "contractedValueOf statement point point",
        "firstWrongStep", "firstWrongStep", "bestRowWeight", "bestColumnWeight", "bestRoom",
    };

    private final Random random;
    private final CellWindows x = new CellWindows();
    private final NaiveCells naive = new NaiveCells();

    private RandomRunTests(long seed) {
        random = new Random(seed);
    }

    private void run(int seed) {
        for (int call = 0; call < CALLS; call++) {
            String[] drawn = CALLS_DRAWN[random.nextInt(CALLS_DRAWN.length)].split(" ");
            Object[] arguments = new Object[drawn.length - 1];
            for (int i = 0; i < arguments.length; i++) {
                arguments[i] = draw(drawn[i + 1]);
            }
            String want = Check.answer(naive, drawn[0], arguments);
            String what = "run " + seed + ", call " + call + ": " + drawn[0] + Check.shown(arguments);
            Check.same(what, Check.answer(x, drawn[0], arguments), want);
        }
    }

    private Object draw(String kind) {
        switch (kind) {
            case "flag": return random.nextInt(3) == 0;
            case "addend": return near(0, 99);
            case "statement": return near(0, Math.max(1, naive.steps() == 0 ? 0 : lastStatement()));
            case "factor": return near(1, 9);
            case "rowsBack": return near(0, 3);
            case "columnsBack": return near(-3, 3);
            case "side": return near(1, 8);
            case "weight": return random.nextBoolean() ? near(0, 9) : near(0, 2);
            case "offset": return random.nextBoolean() ? near(0, 30) : near(0, 4);
            case "read": return near(0, 3);
            case "point": return near(0, random.nextBoolean() ? 3 : 7);
            case "step": return near(0, Math.max(0, naive.steps() - 1));
            case "modulus": return random.nextInt(3) == 0 ? near(1, 99) : near(1, 9);
            case "slant": return near(0, 9);
            default: throw new IllegalStateException(kind);
        }
    }

    private int lastStatement() {
        int last = 0;
        while (!Check.answer(naive, "windowSize", last + 1).startsWith("throws")) {
            last++;
        }
        return last;
    }

    /** Mostly within the bounds, often on them, sometimes outside. */
    private int near(int low, int high) {
        switch (random.nextInt(40)) {
            case 0: return low - 1;
            case 1: return high + 1;
            case 2: return random.nextBoolean() ? Integer.MIN_VALUE : Integer.MAX_VALUE;
            case 3: case 4: return low;
            case 5: case 6: return high;
            default: return low + random.nextInt(high - low + 1);
        }
    }

    public static void main(String[] arguments) {
        for (int seed = 1; seed <= RUNS; seed++) {
            new RandomRunTests(seed).run(seed);
        }
        Check.finish();
    }
}
