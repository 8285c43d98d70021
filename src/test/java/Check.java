import java.lang.reflect.InvocationTargetException;
import java.lang.reflect.Method;
import java.util.Arrays;
import java.util.IdentityHashMap;
import java.util.Map;
import java.util.function.Supplier;

/** What the tests share: calling by name, comparing, counting what is wrong. */
final class Check {
    /** The document promises 512 calls of one object; some are left for those that a test makes by itself. */
    private static final int MOST_CALLS = 500;

    private static final Map<Object, Integer> CALLS = new IdentityHashMap<>();
    private static String about = "";
    private static int wrong = 0;
    private static int checks = 0;

    private Check() {
    }

    /** Runs the test of one sentence of the document; what it finds wrong is told with the promises and the words. */
    static void sentence(String promises, String words, Runnable test) {
        about = "promise " + promises + ", \"" + words + "\": ";
        int before = checks;
        try {
            test.run();
        } catch (RuntimeException e) {
            same("the test", "threw " + e, "an end");
        }
        if (checks == before) {
            same("the number of checks", "0", "1 at least");
        }
        about = "";
    }

    /** Compares a call's answer with the one that is due: a number, true, false, or throws.NameOfTheException. */
    static void due(Object target, String call, Object want, Object... arguments) {
        same(call + shown(arguments), answer(target, call, arguments), String.valueOf(want));
    }

    static void same(String what, String got, String want) {
        checks++;
        if (!got.equals(want)) {
            wrong++;
            System.out.println(about + what + " answered " + got + ", due is " + want);
        }
    }

    /** Each call throws what is due, and all answers stay as they were. */
    static void throwsAndChangesNothing(CellWindows x, String exception, Object[]... calls) {
        String before = allAnswers(x);
        for (Object[] call : calls) {
            due(x, (String) call[0], "throws." + exception, arguments(call));
        }
        same("all answers after calls that throw " + exception, allAnswers(x), before);
    }

    /** Each call, on an object of its own, throws what is due, and leaves it like one that was never so called. */
    static void refused(Supplier<CellWindows> made, String exception, Object[]... calls) {
        String untouched = allAnswers(made.get());
        for (Object[] call : calls) {
            CellWindows x = made.get();
            due(x, (String) call[0], "throws." + exception, arguments(call));
            same("all answers after " + call[0] + shown(arguments(call)), allAnswers(x), untouched);
        }
    }

    /** The call answers, whatever that may be. */
    static void taken(CellWindows x, Object... call) {
        String answer = answer(x, (String) call[0], arguments(call));
        same(call[0] + shown(arguments(call)), answer.startsWith("throws") ? answer : "an answer", "an answer");
    }

    static Object[] arguments(Object... call) {
        return Arrays.copyOfRange(call, 1, call.length);
    }

    static Object[] call(Object... nameAndArguments) {
        return nameAndArguments;
    }

    static String answer(Object target, String call, Object... arguments) {
        if (target instanceof CellWindows && CALLS.merge(target, 1, Integer::sum) == MOST_CALLS + 1) {
            same("calls of one object", "more", "at most " + MOST_CALLS);
        }
        try {
            return String.valueOf(methodOf(target, call).invoke(target, arguments));
        } catch (InvocationTargetException e) {
            return thrown(target, e.getCause());
        } catch (IllegalAccessException e) {
            throw new IllegalStateException(e);
        }
    }

    /** What the machine or the library throws by itself inside the program is never due. */
    private static String thrown(Object target, Throwable exception) {
        String name = exception.getClass().getSimpleName();
        StackTraceElement[] frames = exception.getStackTrace();
        boolean own = frames.length > 0 && frames[0].getClassName().startsWith(target.getClass().getName());
        return own ? "throws." + name : "throws by itself: " + name;
    }

    private static Method methodOf(Object target, String name) {
        for (Method method : target.getClass().getDeclaredMethods()) {
            if (method.getName().equals(name)) {
                return method;
            }
        }
        throw new IllegalStateException("no method " + name);
    }

    static String shown(Object... arguments) {
        String text = Arrays.toString(arguments);
        return "(" + text.substring(1, text.length() - 1) + ")";
    }

    /** Everything that the object answers about its program; meant for small fields, to stay within 512 calls. */
    static String allAnswers(CellWindows x) {
        StringBuilder all = new StringBuilder();
        String[] plain = {"steps", "isAllowed", "mostLive", "room", "firstWrongStep",
            "bestRowWeight", "bestColumnWeight", "bestRoom"};
        for (String name : plain) {
            note(all, x, name);
        }
        for (int step = 0; step < x.steps(); step++) {
            note(all, x, "statementAt", step);
            note(all, x, "pointAt", step);
        }
        int statements = 0;
        while (statements < 5 && !answer(x, "windowSize", statements).startsWith("throws")) {
            statementAnswers(all, x, statements);
            statements++;
        }
        return all.toString();
    }

    private static void statementAnswers(StringBuilder all, CellWindows x, int statement) {
        String[] names = {"windowSize", "isRight", "conflictPairs", "leastRest", "leastSlantModulus"};
        for (String name : names) {
            note(all, x, name, statement);
        }
        for (int read = 0; read <= 4; read++) {
            note(all, x, "isReadInOrder", statement, read);
        }
        // a program that finds points everywhere must not be asked for ever
        for (int row = 0; row < 9 && noted(all, x, "stepOf", statement, row, 0); row++) {
            int column = 0;
            do {
                note(all, x, "endOf", statement, row, column);
                note(all, x, "placeOf", statement, row, column);
                note(all, x, "valueOf", statement, row, column);
                note(all, x, "contractedValueOf", statement, row, column);
                column++;
            } while (column < 9 && noted(all, x, "stepOf", statement, row, column));
        }
    }

    private static void note(StringBuilder all, CellWindows x, String name, Object... arguments) {
        noted(all, x, name, arguments);
    }

    private static boolean noted(StringBuilder all, CellWindows x, String name, Object... arguments) {
        String answered = answer(x, name, arguments);
        all.append(name).append(shown(arguments)).append('=').append(answered).append('\n');
        return !answered.startsWith("throws");
    }

    static void finish() {
        System.out.println(checks + " checks, " + wrong + " wrong");
        if (wrong != 0 || checks == 0) {
            System.exit(1);
        }
    }
}
