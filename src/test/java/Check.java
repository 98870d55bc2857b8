import java.util.Objects;

/** Counts and prints answers that are not the ones that are due. */
final class Check {
    interface Call {
        Object make();
    }

    private static int wrong = 0;
    private static int made = 0;
    private static String part = "";

    private Check() {
    }

    static void part(String name) {
        part = name;
    }

    /** The answer of a call as a text: its value, or "throws." and the exception's name. */
    static String answerOf(Call call) {
        try {
            return String.valueOf(call.make());
        } catch (RuntimeException e) {
            return "throws." + e.getClass().getSimpleName();
        }
    }

    static void same(String what, Object got, Object want) {
        made++;
        if (!Objects.equals(got, want)) {
            wrong++;
            if (wrong <= 50) {
                System.out.println(part + ": " + what + " answered " + got + ", due is " + want);
            }
        }
    }

    static void due(String what, Call call, Object want) {
        same(what, answerOf(call), String.valueOf(want));
    }

    static void noSuch(String what, Call call) {
        same(what, answerOf(call), "throws.IndexOutOfBoundsException");
    }

    static void badArgument(String what, Call call) {
        same(what, answerOf(call), "throws.IllegalArgumentException");
    }

    static void badState(String what, Call call) {
        same(what, answerOf(call), "throws.IllegalStateException");
    }

    static void end() {
        System.out.println(made + " checks, " + wrong + " wrong");
        if (wrong != 0) {
            System.exit(1);
        }
    }
}
