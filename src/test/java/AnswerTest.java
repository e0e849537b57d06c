/** Promises 14, 16 and 17: told, sent and count. */
public final class AnswerTest {
    public static void main(String[] args) {
        told();
        sentIsKept();
        onlySixtyAreKept();
        counts();
        wrongCounts();
        Checks.finish();
    }

    private static void told() {
        ListForge x = new ListForge();
        x.tick(3);
        x.ask(2, 7, 2);
        int[] asked = {0, 2, 0, 0, 3};
        toldIs(x, "ASKED", asked);
        x.tick(1);
        x.confirm(207);
        x.moderator(2, 7, true);
        int[] live = {1, 2, 1, 0, 4};
        toldIs(x, "LIVE", live);
        x.setting(2, 4, 1);
        x.tick(2);
        x.bounce(2, 7, true);
        x.tick(4);
        int[] stopped = {2, 2, 1, 2, 6};
        toldIs(x, "STOPPED", stopped);
        Checks.thrown("nobody", Checks.NO_ELEMENT, () -> x.told(0, 7, 0));
        Checks.allThrow("told with wrong numbers", Checks.ARGUMENT, () -> x.told(2, 7, -1),
                () -> x.told(2, 7, 5), () -> x.told(3, 7, 0), () -> x.told(-1, 7, 0),
                () -> x.told(2, 12, 0), () -> x.told(2, -1, 0), () -> x.told(0, 7, 5));
    }

    private static void toldIs(ListForge x, String name, int[] due) {
        for (int what = 0; what < due.length; what++) {
            Checks.same(name + " told " + what, x.told(2, 7, what), due[what]);
        }
    }

    private static void sentIsKept() {
        ListForge x = new ListForge();
        Checks.thrown("nothing yet", Checks.BOUNDS, () -> x.sent(0, 0));
        Checks.join(x, 1, 9, 0);
        Checks.join(x, 1, 3, 0);
        x.post(1, 3, 1, 0);
        x.post(1, 3, 1, 0);
        Checks.same("address", x.sent(3, 0), 9);
        Checks.same("list", x.sent(3, 1), 1);
        Checks.same("sort", x.sent(3, 2), 0);
        Checks.same("number", x.sent(3, 3), 1);
        Checks.same("the first", Checks.sentFrom(x, 0), "9 1 2 0, 3 1 2 0, 9 1 0 0, 9 1 0 1");
        Checks.allThrow("none there", Checks.BOUNDS, () -> x.sent(4, 0), () -> x.sent(-1, 0),
                () -> x.sent(Integer.MAX_VALUE, 3), () -> x.sent(Integer.MIN_VALUE, 3));
        Checks.allThrow("another what is seen first", Checks.ARGUMENT, () -> x.sent(0, 4),
                () -> x.sent(0, -1), () -> x.sent(-1, 4), () -> x.sent(99, -1));
    }

    private static void onlySixtyAreKept() {
        ListForge x = new ListForge();
        for (int i = 0; i < 61; i++) {
            Checks.same("ask " + i, x.ask(i % 3, i % 12, 0), 1000 * i + 100 * (i % 3) + i % 12);
            x.leave(i % 3, i % 12);
            Checks.same("all are counted", x.count(4), i + 1);
        }
        Checks.same("the 60th is kept", x.sent(59, 0), 11);
        Checks.thrown("the 61st is not", Checks.BOUNDS, () -> x.sent(60, 0));
        Checks.same("the first is still there", x.sent(0, 2), 2);
    }

    private static void counts() {
        ListForge x = new ListForge();
        for (int l = 0; l < 3; l++) {
            for (int a = 0; a < 4 + l; a++) {
                Checks.join(x, l, a, a == 0 ? 1 : 2);
            }
            x.ask(l, 11, 0);
            x.setting(l, 4, 1);
            x.bounce(l, 1, true);
            for (int p = 0; p <= l; p++) {
                x.post(l, 0, 10 + l, 0);
            }
            x.post(l, 0, 101, 0);
        }
        x.tick(1);
        int[] first = {1, 9, 3, 6, 21};
        for (int what = 0; what < first.length; what++) {
            Checks.same("count " + what, x.count(what), first[what]);
        }
        for (int l = 0; l < 3; l++) {
            Checks.same("subscriptions", x.count(10 + l), 5 + l);
            Checks.same("LIVE ones", x.count(20 + l), 3 + l);
            Checks.same("posts in the bundle", x.count(30 + l), 1 + l);
            Checks.same("their sizes", x.count(40 + l), (1 + l) * (10 + l));
        }
    }

    private static void wrongCounts() {
        ListForge x = new ListForge();
        for (int what = -60; what < 120; what++) {
            int asked = what;
            boolean known = what >= 0 && what <= 4 || what >= 10 && what < 50 && what % 10 < 3;
            Checks.thrown("count " + what, known ? null : Checks.ARGUMENT, () -> x.count(asked));
        }
        Checks.allThrow("far off", Checks.ARGUMENT, () -> x.count(Integer.MAX_VALUE),
                () -> x.count(Integer.MIN_VALUE));
    }
}
