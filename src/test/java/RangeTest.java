import java.util.function.Supplier;

/** Each range of numbers that the document gives: its first and last number, and just outside. */
public final class RangeTest {
    private interface PlaceCall {
        void make(ListForge x, int l, int a);
    }

    public static void main(String[] args) {
        placesOfSubscriptions();
        placesOfOtherCalls();
        waysOfPromises2And5();
        settingsOfPromise8();
        sizesOfPromise8();
        bestOfPromise8();
        switchesOfPromise8();
        postsOfPromise9();
        judgementsOfPromise10();
        daysOfPromise13();
        whatIsAskedOfPromise14();
        whatIsAskedOfPromise16();
        keptOfPromise16();
        whatIsAskedOfPromise17();
        Checks.finish();
    }

    private static void place(String what, Supplier<ListForge> made, PlaceCall call) {
        Edges.range(what + ", LIST", 0, 2, made, (x, l) -> call.make(x, l, 5));
        Edges.range(what + ", ADDRESS", 0, 11, made, (x, a) -> call.make(x, 1, a));
    }

    private static void placesOfSubscriptions() {
        place("leave", Worlds::everyoneLive, (x, l, a) -> x.leave(l, a));
        place("way", Worlds::everyoneLive, (x, l, a) -> x.way(l, a, 1));
        place("moderator", Worlds::everyoneLive, (x, l, a) -> x.moderator(l, a, true));
        place("bounce", Worlds::everyoneLive, (x, l, a) -> x.bounce(l, a, false));
        place("renew", Worlds::everyoneStopped, (x, l, a) -> x.renew(l, a));
        place("told", Worlds::everyoneAsked, (x, l, a) -> x.told(l, a, 0));
        place("score", Worlds::everyoneAsked, (x, l, a) -> x.score(l, a));
    }

    private static void placesOfOtherCalls() {
        place("ask", ListForge::new, (x, l, a) -> x.ask(l, a, 0));
        place("ban", Worlds::everyoneLive, (x, l, a) -> x.ban(l, a, true));
        place("unban", Worlds::everyoneLive, (x, l, a) -> x.ban(l, a, false));
        place("post", Worlds::openToAll, (x, l, a) -> x.post(l, a, 1, 0));
        Edges.range("setting, LIST", 0, 2, Worlds::someOfEach, (x, l) -> x.setting(l, 0, 1));
    }

    private static void waysOfPromises2And5() {
        Edges.range("ask, WAY", 0, 2, Worlds::someOfEach, (x, way) -> x.ask(2, 0, way));
        Edges.range("way, WAY", 0, 2, Worlds::someOfEach, (x, way) -> x.way(0, 1, way));
    }

    private static void settingsOfPromise8() {
        Edges.range("setting 0 to 4", 0, 4, Worlds::someOfEach, (x, what) -> x.setting(0, what, 1));
        Edges.range("setting 10 to 19", 10, 19, Worlds::someOfEach, (x, what) -> x.setting(0, what, 1));
        for (int what = 5; what < 10; what++) {
            int unknown = what;
            Edges.refused("setting " + what, Checks.ARGUMENT, Worlds::someOfEach,
                    x -> x.setting(0, unknown, 1));
        }
    }

    private static void sizesOfPromise8() {
        double[] taken = {1, Math.nextDown(2.0), 2, 999, 1000, Math.nextDown(1001.0)};
        double[] kept = {1, 1, 2, 999, 1000, 1000};
        // Cut to fewer bits than an int has, or by way of a long, the last ones would come to 1.
        double[] refused = {0, -0.0, Math.nextDown(1.0), -0.5, -1, 1001, 1e300, -1e300, Double.NaN,
                Double.POSITIVE_INFINITY, Double.NEGATIVE_INFINITY, 65537, 4294967297.0};
        for (int what = 2; what <= 3; what++) {
            takes(what, taken, kept);
            refuses(what, refused);
        }
    }

    private static void bestOfPromise8() {
        double[] taken = {0.5, Math.nextUp(0.5), 1, Math.nextDown(10.0), 10};
        double[] refused = {Math.nextDown(0.5), 0, -0.5, -1, Math.nextUp(10.0), 10.5, 1e300, Double.NaN,
                Double.POSITIVE_INFINITY, Double.NEGATIVE_INFINITY};
        takes(4, taken, taken);
        refuses(4, refused);
    }

    private static void switchesOfPromise8() {
        double[] taken = {1, 0, Double.MIN_VALUE, -0.0, -Double.MIN_VALUE, 0, 1e300, 0, -1, 0,
                Double.POSITIVE_INFINITY, 0, Double.NEGATIVE_INFINITY, 0, Double.NaN, 0};
        double[] kept = {1, 0, 1, 0, 1, 0, 1, 0, 1, 0, 1, 0, 1, 0, 1, 0};
        int[] switches = {0, 1, 10, 19};
        for (int what : switches) {
            takes(what, taken, kept);
        }
    }

    private static void takes(int what, double[] given, double[] kept) {
        ListForge x = new ListForge();
        for (int i = 0; i < given.length; i++) {
            x.setting(2, what, given[i]);
            Checks.same("setting " + what + " to " + given[i], x.setting(2, what, given[i]), kept[i]);
        }
    }

    private static void refuses(int what, double[] given) {
        for (double v : given) {
            Edges.refused("setting " + what + " to " + v, Checks.ARGUMENT, Worlds::someOfEach,
                    x -> x.setting(0, what, v));
        }
    }

    private static void postsOfPromise9() {
        Edges.range("post, SIZE", 1, 1000, Worlds::openToAll, (x, size) -> x.post(1, 0, size, 0));
        Edges.range("post, SUBJECT", 0, 9, Worlds::openToAll, (x, subject) -> x.post(1, 0, 1, subject));
    }

    private static void judgementsOfPromise10() {
        Edges.range("judge, ADDRESS", 0, 11, RangeTest::allModerate, (x, m) -> x.judge(m, 0, 0));
        Edges.range("judge, how", 0, 2, Worlds::someOfEach, (x, how) -> x.judge(2, 1, how));
    }

    private static ListForge allModerate() {
        ListForge x = Worlds.everyoneLive();
        x.setting(1, 0, 1);
        x.post(1, 3, 101, 0);
        for (int a = 0; a < Worlds.ADDRESSES; a++) {
            x.moderator(1, a, true);
        }
        return x;
    }

    private static void daysOfPromise13() {
        Edges.range("tick", 1, 20, Worlds::someOfEach, (x, days) -> x.tick(days));
        for (int days = 1; days <= 20; days++) {
            ListForge x = new ListForge();
            Checks.same("tick of " + days, x.tick(days), days);
            Checks.same("TODAY after " + days, x.count(0), days);
        }
    }

    private static void whatIsAskedOfPromise14() {
        Edges.range("told, what", 0, 4, Worlds::someOfEach, (x, what) -> x.told(0, 1, what));
    }

    private static void whatIsAskedOfPromise16() {
        Edges.range("sent, what", 0, 3, Worlds::someOfEach, (x, what) -> x.sent(0, what));
    }

    private static void keptOfPromise16() {
        int[] sent = {1, 2, 59, 60, 61, 75};
        for (int many : sent) {
            Supplier<ListForge> made = () -> Worlds.withSent(many);
            int last = Math.min(many, 60) - 1;
            Checks.same("sent, the first of " + many, made.get().sent(0, 2), 2);
            Checks.same("sent, the last of " + many, made.get().sent(last, 2), 2);
            Checks.same("all are counted", made.get().count(4), many);
            int[] beyond = {last + 1, -1, 60, Integer.MIN_VALUE, Integer.MAX_VALUE};
            for (int k : beyond) {
                Edges.refused("sent " + k + " of " + many, Checks.BOUNDS, made, x -> x.sent(k, 0));
                Edges.refused("what is looked at first", Checks.ARGUMENT, made, x -> x.sent(k, 4));
            }
        }
    }

    private static void whatIsAskedOfPromise17() {
        Edges.range("count 0 to 4", 0, 4, Worlds::someOfEach, (x, what) -> x.count(what));
        for (int tens = 10; tens <= 40; tens += 10) {
            Edges.range("count of LISTS", tens, tens + 2, Worlds::someOfEach, (x, what) -> x.count(what));
        }
        int[] between = {5, 6, 7, 8, 9, 13, 19, 23, 29, 33, 39, 43, 49, 50, 51, 52, 110, -10, 256, 65536};
        for (int what : between) {
            Edges.refused("count " + what, Checks.ARGUMENT, Worlds::someOfEach, x -> x.count(what));
        }
    }
}
