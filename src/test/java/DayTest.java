/** Promise 13: tick, and what the beginning of a DAY does. */
public final class DayTest {
    public static void main(String[] args) {
        daysPass();
        askedOnesGo();
        oldBundlesAreSent();
        judgedPostsAreAsOldAsTheirPassing();
        bundlesWithoutReadersAreEmptied();
        aBundleSentWhenFullStartsAnew();
        theOrderOfADay();
        daysOneBehindTheOther();
        Checks.finish();
    }

    private static void daysPass() {
        ListForge x = new ListForge();
        Checks.same("one", x.tick(1), 1);
        Checks.same("twenty", x.tick(20), 21);
        Checks.allThrow("other numbers", Checks.ARGUMENT, () -> x.tick(0), () -> x.tick(21),
                () -> x.tick(-1), () -> x.tick(Integer.MAX_VALUE), () -> x.tick(Integer.MIN_VALUE));
        Checks.same("TODAY", x.count(0), 21);
    }

    private static void askedOnesGo() {
        ListForge x = new ListForge();
        x.ask(0, 0, 0);
        x.tick(1);
        x.ask(0, 1, 0);
        Checks.join(x, 0, 2, 0);
        x.tick(3);
        Checks.same("four days later", x.count(10), 3);
        x.tick(1);
        Checks.same("five days later", x.count(10), 2);
        Checks.thrown("its code is gone", Checks.NO_ELEMENT, () -> x.confirm(0));
        Checks.same("the last day of the other", x.confirm(1001), 1);
        x.tick(20);
        Checks.same("LIVE ones stay", x.count(20), 2);
        Checks.same("going is not told", x.count(4), 3);
    }

    private static void oldBundlesAreSent() {
        ListForge x = new ListForge();
        Checks.join(x, 1, 3, 1);
        Checks.join(x, 1, 4, 1);
        x.tick(4);
        x.post(1, 3, 10, 0);
        x.tick(2);
        Checks.same("two days are not too many", x.count(31), 1);
        x.post(1, 3, 20, 0);
        Checks.same("sizes", x.count(41), 30);
        int from = x.count(4);
        x.tick(1);
        Checks.same("all that is in it", Checks.sentFrom(x, from), "3 1 1 2, 4 1 1 2");
        Checks.same("empty", x.count(31), 0);
        Checks.same("no sizes", x.count(41), 0);
        x.tick(20);
        Checks.same("an empty one is not sent", x.count(4), from + 2);
    }

    private static void judgedPostsAreAsOldAsTheirPassing() {
        ListForge x = new ListForge();
        Checks.join(x, 0, 3, 1);
        x.moderator(0, 3, true);
        Checks.join(x, 0, 4, 2);
        x.post(0, 4, 150, 0);
        x.tick(2);
        x.judge(3, 0, 0);
        x.tick(2);
        Checks.same("two days in the bundle", x.count(30), 1);
        x.tick(1);
        Checks.same("three days in the bundle", x.count(30), 0);
    }

    private static void bundlesWithoutReadersAreEmptied() {
        ListForge x = new ListForge();
        Checks.join(x, 0, 3, 1);
        x.post(0, 3, 10, 0);
        x.leave(0, 3);
        x.tick(2);
        Checks.same("it waits", x.count(30), 1);
        x.tick(1);
        Checks.same("it is empty", x.count(30), 0);
        Checks.same("its sizes too", x.count(40), 0);
        Checks.same("nothing is sent", x.count(4), 1);
    }

    private static void aBundleSentWhenFullStartsAnew() {
        ListForge x = new ListForge();
        Checks.join(x, 0, 3, 1);
        x.post(0, 3, 100, 0);
        x.tick(2);
        x.post(0, 3, 100, 0);
        x.post(0, 3, 100, 0);
        x.tick(2);
        Checks.same("it is two days old", x.count(30), 1);
        x.tick(1);
        Checks.same("it is three days old", x.count(30), 0);
    }

    private static void theOrderOfADay() {
        ListForge x = new ListForge();
        for (int l = 2; l >= 0; l--) {
            Checks.join(x, l, 9, 0);
            Checks.join(x, l, 2, 0);
            Checks.join(x, l, 5, 1);
            Checks.join(x, l, 1, 1);
            x.setting(l, 4, 1);
            x.bounce(l, 9, true);
            x.bounce(l, 2, true);
            x.post(l, 5, 1, 0);
        }
        int from = x.count(4);
        x.tick(3);
        Checks.same("lists, then addresses, then the bundle", Checks.sentFrom(x, from),
                "2 0 5 2, 9 0 5 2, 1 0 1 1, 5 0 1 1, "
                        + "2 1 5 2, 9 1 5 2, 1 1 1 1, 5 1 1 1, "
                        + "2 2 5 2, 9 2 5 2, 1 2 1 1, 5 2 1 1");
    }

    private static void daysOneBehindTheOther() {
        ListForge x = new ListForge();
        Checks.join(x, 0, 2, 0);
        Checks.join(x, 0, 5, 1);
        x.setting(0, 4, 1);
        x.bounce(0, 2, true);
        x.post(0, 5, 1, 0);
        int from = x.count(4);
        x.tick(20);
        Checks.same("each day in its turn", Checks.sentFrom(x, from),
                "2 0 5 2, 5 0 1 1, 2 0 5 3, 2 0 6 0");
    }
}
