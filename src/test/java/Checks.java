import java.util.NoSuchElementException;

/** Counts what was looked at, prints what is not as due, and ends the test accordingly. */
final class Checks {
    static final Class<?> ARGUMENT = IllegalArgumentException.class;
    static final Class<?> STATE = IllegalStateException.class;
    static final Class<?> UNSUPPORTED = UnsupportedOperationException.class;
    static final Class<?> NO_ELEMENT = NoSuchElementException.class;
    static final Class<?> BOUNDS = IndexOutOfBoundsException.class;

    private static int looked = 0;
    private static int wrong = 0;

    private Checks() {
    }

    interface Call {
        void run();
    }

    static void same(String what, long got, long due) {
        report(got == due, what, String.valueOf(got), String.valueOf(due));
    }

    static void same(String what, double got, double due) {
        report(got == due, what, String.valueOf(got), String.valueOf(due));
    }

    static void same(String what, boolean got, boolean due) {
        report(got == due, what, String.valueOf(got), String.valueOf(due));
    }

    static void same(String what, String got, String due) {
        report(got.equals(due), what, got, due);
    }

    /** The very class is due: a subclass would be an exception that the program did not mean. */
    static void thrown(String what, Class<?> due, Call call) {
        Class<?> got = thrownBy(call);
        report(got == due, what, nameOf(got), nameOf(due));
    }

    /** For calls that are refused in any state, so that they can be made on any object. */
    static void allThrow(String what, Class<?> due, Call... calls) {
        for (int i = 0; i < calls.length; i++) {
            thrown(what + " #" + i, due, calls[i]);
        }
    }

    /** Each one that was sent from the k-th on, as "address list sort number" with commas between. */
    static String sentFrom(ListForge x, int k) {
        StringBuilder all = new StringBuilder();
        int kept = Math.min(x.count(4), 60);
        for (int i = k; i < kept; i++) {
            all.append(i == k ? "" : ", ").append(x.sent(i, 0)).append(' ').append(x.sent(i, 1))
                    .append(' ').append(x.sent(i, 2)).append(' ').append(x.sent(i, 3));
        }
        return all.toString();
    }

    /** Puts the address on the list, confirmed. */
    static void join(ListForge x, int l, int a, int way) {
        x.confirm(x.ask(l, a, way));
    }

    static void finish() {
        System.out.println(looked + " looked at, " + wrong + " not as due");
        if (wrong != 0) {
            System.exit(1);
        }
    }

    private static Class<?> thrownBy(Call call) {
        try {
            call.run();
            return null;
        } catch (RuntimeException e) {
            return e.getClass();
        }
    }

    private static String nameOf(Class<?> thrown) {
        return thrown == null ? "nothing thrown" : thrown.getName();
    }

    private static void report(boolean right, String what, String got, String due) {
        looked++;
        if (!right) {
            wrong++;
            System.out.println(what + ": got " + got + ", due is " + due);
        }
    }
}
