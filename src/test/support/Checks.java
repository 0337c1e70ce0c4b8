/** What the tests of this project share: each answer that is not the one that is due is told, and counted. */
final class Checks {
    private static final int MOST_TOLD = 40;

    private static int wrong = 0;
    private static String sentence = "";

    /** A call of the sheet that may throw. */
    interface Call {
        void on(DotSheet x);
    }

    /** A call of the sheet with one argument that is tried with several values. */
    interface CallWith {
        void on(DotSheet x, int value);
    }

    private Checks() {
    }

    /** Names the promise or the sentence of the document that the checks behind it are about. */
    static void about(String words) {
        sentence = words;
    }

    static void due(String what, long got, long want) {
        if (got != want) {
            complain(what + " answered " + got + ", due is " + want);
        }
    }

    /** The dots of rows from (left, top) on, '#' for a dark one. */
    static void rows(DotSheet x, int left, int top, String... rows) {
        for (int i = 0; i < rows.length; i++) {
            StringBuilder got = new StringBuilder();
            long bits = x.dots(left, top + i, rows[i].length());
            for (int c = rows[i].length() - 1; c >= 0; c--) {
                got.append((bits >> c & 1) == 1 ? '#' : '.');
            }
            if (!rows[i].contentEquals(got)) {
                complain("row " + (top + i) + " is " + got + ", due is " + rows[i]);
            }
        }
    }

    static void illegal(String what, Runnable call) {
        throwing(what, call, IllegalArgumentException.class);
    }

    static void index(String what, Runnable call) {
        throwing(what, call, IndexOutOfBoundsException.class);
    }

    static void state(String what, Runnable call) {
        throwing(what, call, IllegalStateException.class);
    }

    /** The call throws just this exception, and leaves a sheet on which much is set as it was. */
    static void refused(String what, Class<?> exception, Call call) {
        leaves(what, x -> throwing(what, () -> call.on(x), exception));
    }

    /** The call leaves a sheet on which much is set as it was. */
    static void leaves(String what, Call call) {
        DotSheet x = Prepared.make();
        call.on(x);
        if (!Prepared.allOf(x).equals(Prepared.ALL)) {
            complain(what + " changed something");
        }
    }

    /** An argument may be from least to greatest, and nothing else; the call must be fine but for it. */
    static void range(String what, int least, int greatest, CallWith call) {
        outside(what, least, greatest, IllegalArgumentException.class, call);
        allowed(what + " " + least, x -> call.on(x, least));
        allowed(what + " " + greatest, x -> call.on(x, greatest));
    }

    static void allowed(String what, Call call) {
        try {
            call.on(Prepared.make());
        } catch (RuntimeException e) {
            complain(what + " threw " + e + ", but is allowed");
        }
    }

    /** What lies next to the bounds, and as far from them as can be, is refused. */
    static void outside(String what, int least, int greatest, Class<?> exception, CallWith call) {
        for (int value : new int[] {least - 1, greatest + 1, Integer.MIN_VALUE, Integer.MAX_VALUE}) {
            refused(what + " " + value, exception, x -> call.on(x, value));
        }
    }

    static void complain(String what) {
        wrong++;
        if (wrong <= MOST_TOLD) {
            System.out.println(sentence + ": " + what);
        }
    }

    static void end() {
        System.exit(wrong == 0 ? 0 : 1);
    }

    private static void throwing(String what, Runnable call, Class<?> exception) {
        try {
            call.run();
            complain(what + " threw nothing, due is " + exception.getSimpleName());
        } catch (RuntimeException e) {
            if (e.getClass() != exception) {
                complain(what + " threw " + e + ", due is " + exception.getSimpleName());
            }
        }
    }
}
