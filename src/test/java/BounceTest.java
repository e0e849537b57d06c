/** Promises 11, 12 and 15: bounce, renew and score, with BOUNCES as they go on by days. */
public final class BounceTest {
    public static void main(String[] args) {
        oneADayCounts();
        scoresFade();
        smallScoresVanish();
        stoppedAtBest();
        loweredBestWaitsForABounce();
        warnings();
        goneAfterThree();
        renewing();
        oneADayAlsoWhenRenewed();
        scoresAsTold();
        wrongCalls();
        Checks.finish();
    }

    private static ListForge withOne() {
        ListForge x = new ListForge();
        Checks.join(x, 0, 1, 0);
        return x;
    }

    private static void oneADayCounts() {
        ListForge x = withOne();
        Checks.join(x, 1, 1, 0);
        Checks.same("soft", x.bounce(0, 1, false), 0.5);
        Checks.same("hard, the same day", x.bounce(0, 1, true), 0.5);
        Checks.same("another list counts its own", x.bounce(1, 1, true), 1.0);
        x.tick(1);
        Checks.same("hard, the next day", x.bounce(0, 1, true), 1.5);
        Checks.same("soft, the same day", x.bounce(0, 1, false), 1.5);
        Checks.same("the other faded not", x.score(1, 1), 1.0);
    }

    private static void scoresFade() {
        ListForge x = withOne();
        x.bounce(0, 1, true);
        x.tick(1);
        Checks.same("not after a day with a bounce", x.score(0, 1), 1.0);
        x.bounce(0, 1, true);
        x.bounce(0, 1, true);
        x.tick(1);
        Checks.same("nor after another", x.score(0, 1), 2.0);
        x.tick(1);
        Checks.same("after a day without", x.score(0, 1), 1.75);
        x.tick(2);
        Checks.same("after two more", x.score(0, 1), 1.75 * 0.875 * 0.875);
    }

    private static void smallScoresVanish() {
        ListForge x = withOne();
        x.bounce(0, 1, false);
        x.tick(6);
        Checks.same("above the least", x.score(0, 1), 0.5 * 0.875 * 0.875 * 0.875 * 0.875 * 0.875);
        x.tick(1);
        Checks.same("below the least", x.score(0, 1), 0.0);
        x.tick(20);
        Checks.same("0 stays 0", x.score(0, 1), 0.0);
    }

    private static void stoppedAtBest() {
        ListForge x = withOne();
        x.tick(5);
        x.setting(0, 4, 1.5);
        int from = x.count(4);
        x.bounce(0, 1, true);
        Checks.same("below BEST", x.told(0, 1, 0), 1);
        x.tick(1);
        Checks.same("at BEST", x.bounce(0, 1, false), 1.5);
        Checks.same("STOPPED", x.told(0, 1, 0), 2);
        Checks.same("since", x.told(0, 1, 4), 6);
        Checks.same("the first WARNING", x.told(0, 1, 3), 1);
        Checks.same("it is sent", Checks.sentFrom(x, from), "1 0 5 1");
        Checks.same("not LIVE", x.count(20), 0);
        Checks.same("but there", x.count(10), 1);
        Checks.thrown("STOPPED: bounce", Checks.STATE, () -> x.bounce(0, 1, true));
    }

    private static void loweredBestWaitsForABounce() {
        ListForge x = withOne();
        x.bounce(0, 1, true);
        x.setting(0, 4, 0.5);
        Checks.same("one that does not count", x.bounce(0, 1, true), 1.0);
        Checks.same("still LIVE", x.told(0, 1, 0), 1);
        x.tick(2);
        Checks.same("LIVE on later days", x.told(0, 1, 0), 1);
        Checks.same("one that counts", x.bounce(0, 1, false), 1.375);
        Checks.same("STOPPED", x.told(0, 1, 0), 2);
    }

    private static ListForge withStopped() {
        ListForge x = withOne();
        x.tick(1);
        x.setting(0, 4, 1);
        x.bounce(0, 1, true);
        return x;
    }

    private static void warnings() {
        ListForge x = withStopped();
        int[] due = {1, 1, 2, 2, 2, 3, 3, 3};
        for (int day = 0; day < due.length; day++) {
            x.tick(1);
            Checks.same("WARNING on day " + day, x.told(0, 1, 3), due[day]);
            Checks.same("the SCORE does not fade", x.score(0, 1), 1.0);
            Checks.same("since stays", x.told(0, 1, 4), 1);
        }
        Checks.same("what was sent", Checks.sentFrom(x, 1), "1 0 5 1, 1 0 5 2, 1 0 5 3");
    }

    private static void goneAfterThree() {
        ListForge x = withStopped();
        x.moderator(0, 1, true);
        x.tick(8);
        Checks.same("still there", x.count(10), 1);
        x.tick(1);
        Checks.same("gone", x.count(10), 0);
        Checks.thrown("no more", Checks.NO_ELEMENT, () -> x.renew(0, 1));
        Checks.same("GONE is sent", Checks.sentFrom(x, 4), "1 0 6 0");
        x.tick(20);
        Checks.same("nothing more is sent", x.count(4), 5);
        Checks.same("it may ask again", x.ask(0, 1, 0), 1001);
    }

    private static void renewing() {
        ListForge x = withStopped();
        x.way(0, 1, 2);
        x.tick(4);
        int sent = x.count(4);
        Checks.same("the latest WARNING", x.renew(0, 1), 2);
        Checks.same("LIVE", x.told(0, 1, 0), 1);
        Checks.same("its way stays", x.told(0, 1, 1), 2);
        Checks.same("no WARNING", x.told(0, 1, 3), 0);
        Checks.same("since", x.told(0, 1, 4), 5);
        Checks.same("the SCORE", x.score(0, 1), 0.0);
        Checks.same("nothing is sent", x.count(4), sent);
        Checks.thrown("a LIVE one", Checks.STATE, () -> x.renew(0, 1));
        x.tick(7);
        Checks.same("no WARNING comes later", x.count(4), sent);
        x.bounce(0, 1, true);
        Checks.same("STOPPED anew: WARNING 1", x.told(0, 1, 3), 1);
        Checks.same("renewed the same day", x.renew(0, 1), 1);
    }

    private static void oneADayAlsoWhenRenewed() {
        ListForge x = withStopped();
        x.renew(0, 1);
        Checks.same("counted that day already", x.bounce(0, 1, true), 0.0);
        Checks.same("LIVE", x.told(0, 1, 0), 1);
        x.tick(1);
        Checks.same("the next day counts", x.bounce(0, 1, true), 1.0);
        Checks.same("STOPPED", x.told(0, 1, 0), 2);
    }

    private static void scoresAsTold() {
        ListForge x = new ListForge();
        x.ask(0, 1, 0);
        Checks.same("of an ASKED one", x.score(0, 1), 0.0);
        x.confirm(1);
        Checks.same("of a new LIVE one", x.score(0, 1), 0.0);
        x.setting(0, 4, 0.75);
        x.bounce(0, 1, true);
        Checks.same("of a STOPPED one", x.score(0, 1), 1.0);
        Checks.thrown("of nobody", Checks.NO_ELEMENT, () -> x.score(1, 1));
        Checks.allThrow("score with wrong numbers", Checks.ARGUMENT, () -> x.score(-1, 0),
                () -> x.score(3, 0), () -> x.score(0, -1), () -> x.score(0, 12));
    }

    private static void wrongCalls() {
        ListForge x = withOne();
        x.ask(0, 2, 0);
        Checks.thrown("bounce of an ASKED one", Checks.STATE, () -> x.bounce(0, 2, true));
        Checks.thrown("renew of an ASKED one", Checks.STATE, () -> x.renew(0, 2));
        Checks.thrown("bounce of nobody", Checks.NO_ELEMENT, () -> x.bounce(0, 3, true));
        Checks.thrown("renew of nobody", Checks.NO_ELEMENT, () -> x.renew(0, 3));
        Checks.allThrow("wrong numbers", Checks.ARGUMENT, () -> x.bounce(-1, 0, true),
                () -> x.bounce(3, 0, true), () -> x.bounce(0, -1, true), () -> x.bounce(0, 12, true),
                () -> x.renew(-1, 0), () -> x.renew(3, 0), () -> x.renew(0, -1), () -> x.renew(0, 12));
    }
}
