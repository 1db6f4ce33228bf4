/** What the tests of the project share: due answers, due exceptions, texts to type, and the count of faults. */
final class Check {
    interface Call {
        Object answer();
    }

    private static int wrong = 0;
    private static int asked = 0;
    private static String about = "";

    private Check() {
    }

    static void due(String call, Object got, Object want) {
        asked++;
        if (!want.equals(got)) {
            wrong++;
            System.out.println(about + call + " answered " + got + ", due is " + want);
        }
    }

    /** What the answers that follow are about: it is told in front of each wrong one. */
    static void about(String what) {
        about = what;
    }

    static void due(String call, int got, int want) {
        due(call, (Object) got, (Object) want);
    }

    static void due(String call, long got, long want) {
        due(call, (Object) got, (Object) want);
    }

    /** The answer of a call, or the name of the exception's class. */
    static Object outcome(Call call) {
        try {
            return call.answer();
        } catch (RuntimeException e) {
            return "throws." + e.getClass().getSimpleName();
        }
    }

    private static void dueThrow(String name, RodGrids bench, String call, Call body) {
        long before = bench.digest();
        due(call, outcome(body), "throws." + name);
        due(call + " changes nothing", bench.digest(), before);
    }

    static void noSuch(RodGrids bench, String call, Call body) {
        dueThrow("IndexOutOfBoundsException", bench, call, body);
    }

    static void badArgument(RodGrids bench, String call, Call body) {
        dueThrow("IllegalArgumentException", bench, call, body);
    }

    static void badState(RodGrids bench, String call, Call body) {
        dueThrow("IllegalStateException", bench, call, body);
    }

    static void type(RodGrids bench, String text) {
        bench.clearCommands();
        for (int i = 0; i < text.length(); i++) {
            bench.type(text.charAt(i));
        }
    }

    static int run(RodGrids bench, String text) {
        type(bench, text);
        return bench.runCommands();
    }

    static void end(String name) {
        System.out.println(name + ": " + (asked - wrong) + " of " + asked + " answers are as due");
        if (wrong != 0 || asked == 0) {
            System.exit(1);
        }
    }
}
