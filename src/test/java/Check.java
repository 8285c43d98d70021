import java.lang.reflect.InvocationTargetException;
import java.lang.reflect.Method;

/** What the tests share: calling by name, comparing, counting what is wrong. */
final class Check {
    private static int wrong = 0;
    private static int checks = 0;

    private Check() {
    }

    /** Compares a call's answer with the one that is due: a number, true, false, or throws.NameOfTheException. */
    static void due(Object target, String call, Object want, Object... arguments) {
        same(call + shown(arguments), answer(target, call, arguments), String.valueOf(want));
    }

    static void same(String what, String got, String want) {
        checks++;
        if (!got.equals(want)) {
            wrong++;
            System.out.println(what + " answered " + got + ", due is " + want);
        }
    }

    /** Each call throws what is due, and all answers stay as they were. */
    static void throwsAndChangesNothing(CellWindows x, String exception, Object[]... calls) {
        String before = allAnswers(x);
        for (Object[] call : calls) {
            Object[] arguments = java.util.Arrays.copyOfRange(call, 1, call.length);
            due(x, (String) call[0], "throws." + exception, arguments);
        }
        same("all answers after calls that throw " + exception, allAnswers(x), before);
    }

    static Object[] call(Object... nameAndArguments) {
        return nameAndArguments;
    }

    static String answer(Object target, String call, Object... arguments) {
        try {
            return String.valueOf(methodOf(target, call).invoke(target, arguments));
        } catch (InvocationTargetException e) {
            return thrown(target, e.getCause());
        } catch (IllegalAccessException e) {
            throw new IllegalStateException(e);
        }
    }

    /** What the machine or the library throws by itself inside the program is never due. */
    private static String thrown(Object target, Throwable exception) {
        String name = exception.getClass().getSimpleName();
        StackTraceElement[] frames = exception.getStackTrace();
        boolean own = frames.length > 0 && frames[0].getClassName().startsWith(target.getClass().getName());
        return own ? "throws." + name : "throws by itself: " + name;
    }

    private static Method methodOf(Object target, String name) {
        for (Method method : target.getClass().getDeclaredMethods()) {
            if (method.getName().equals(name)) {
                return method;
            }
        }
        throw new IllegalStateException("no method " + name);
    }

    static String shown(Object... arguments) {
        String text = java.util.Arrays.toString(arguments);
        return "(" + text.substring(1, text.length() - 1) + ")";
    }

    /** Everything that the object answers about its program; meant for small fields, to stay within 512 calls. */
    static String allAnswers(CellWindows x) {
        StringBuilder all = new StringBuilder();
        String[] plain = {"steps", "isAllowed", "mostLive", "room", "firstWrongStep",
            "bestRowWeight", "bestColumnWeight", "bestRoom"};
        for (String name : plain) {
            note(all, x, name);
        }
        for (int step = 0; step < x.steps(); step++) {
            note(all, x, "statementAt", step);
            note(all, x, "pointAt", step);
        }
        int statements = 0;
        while (!answer(x, "windowSize", statements).startsWith("throws")) {
            statementAnswers(all, x, statements);
            statements++;
        }
        return all.toString();
    }

    private static void statementAnswers(StringBuilder all, CellWindows x, int statement) {
        String[] names = {"windowSize", "isRight", "conflictPairs", "leastRest", "leastSlantModulus"};
        for (String name : names) {
            note(all, x, name, statement);
        }
        for (int read = 0; read <= 4; read++) {
            note(all, x, "isReadInOrder", statement, read);
        }
        for (int row = 0; x.steps() > 0 && !answer(x, "stepOf", statement, row, 0).startsWith("throws"); row++) {
            for (int column = 0; noted(all, x, "stepOf", statement, row, column); column++) {
                note(all, x, "endOf", statement, row, column);
                note(all, x, "placeOf", statement, row, column);
                note(all, x, "valueOf", statement, row, column);
                note(all, x, "contractedValueOf", statement, row, column);
            }
        }
    }

    private static void note(StringBuilder all, CellWindows x, String name, Object... arguments) {
        all.append(name).append(shown(arguments)).append('=').append(answer(x, name, arguments)).append('\n');
    }

    private static boolean noted(StringBuilder all, CellWindows x, String name, Object... arguments) {
        note(all, x, name, arguments);
        return !answer(x, name, arguments).startsWith("throws");
    }

    static void finish() {
        System.out.println(checks + " checks, " + wrong + " wrong");
        if (wrong != 0 || checks == 0) {
            System.exit(1);
        }
    }
}
