/** The sentences under 'Terms' that draw a line: each just before its line, on it and behind it. */
public final class TermsTest {
    public static void main(String[] args) {
        moderatorsAreLiveOrStopped();
        othersThanLiveOnesPostWhereOpen();
        noPostAboveGreatest();
        everySubjectMayBeBarred();
        rulesInTheirOrder();
        fullAtItsEdges();
        fullIsPassedByMuch();
        fullCountsOfEachListItsOwn();
        aPassedPostComesIntoTheBundleForAnyReader();
        bestAtItsEdges();
        bestIsComparedAsADouble();
        oneBounceADay();
        oneBounceADayOfEachSubscription();
        fadesBelowAQuarter();
        fadesNotAfterADayWithABounce();
        warningsEachThirdDay();
        warningsBeginAnewWhenRenewed();
        askedFiveDaysAgo();
        bundlesOfMoreThanTwoDays();
        numbersOfWhatIsSent();
        Checks.finish();
    }

    private static void moderatorsAreLiveOrStopped() {
        ListForge x = new ListForge();
        Checks.join(x, 0, 1, 0);
        x.moderator(0, 1, true);
        x.setting(0, 4, 0.5);
        x.bounce(0, 1, true);
        Checks.same("when it is STOPPED", x.told(0, 1, 2), 1);
        x.tick(8);
        Checks.same("until it goes", x.told(0, 1, 2), 1);
        x.tick(1);
        int code = x.ask(0, 1, 0);
        Checks.same("not when ASKED anew", x.told(0, 1, 2), 0);
        x.confirm(code);
        Checks.same("nor when LIVE anew", x.told(0, 1, 2), 0);
        x.moderator(0, 1, true);
        x.ban(0, 1, true);
        x.ban(0, 1, false);
        Checks.join(x, 0, 1, 0);
        Checks.same("nor after a ban", x.told(0, 1, 2), 0);
    }

    private static void othersThanLiveOnesPostWhereOpen() {
        ListForge x = Worlds.someOfEach();
        int[] others = {0, 4, 5, 11};
        for (int a : others) {
            Checks.thrown("not OPEN: " + a, Checks.UNSUPPORTED, () -> x.post(0, a, 1, 0));
        }
        x.setting(0, 0, 1);
        for (int a : others) {
            int before = x.count(3);
            x.post(0, a, 1, 0);
            Checks.same("OPEN: " + a, x.count(3), before + 1);
        }
        x.setting(0, 0, 0);
        Checks.thrown("not OPEN again", Checks.UNSUPPORTED, () -> x.post(0, 0, 1, 0));
        Checks.same("a LIVE one", x.post(0, 1, 1, 0), 6);
    }

    private static void heldAre(String what, ListForge x, int size, int subject, int due) {
        x.post(1, 4, size, subject);
        Checks.same(what, x.count(2), due);
    }

    private static void noPostAboveGreatest() {
        ListForge x = Worlds.openToAll();
        heldAre("the least SIZE", x, 1, 0, 0);
        heldAre("100 at first", x, 100, 0, 0);
        heldAre("101 at first", x, 101, 0, 1);
        heldAre("1000 at first", x, 1000, 0, 2);
        x.setting(1, 2, 1);
        heldAre("GREATEST is 1, SIZE 1", x, 1, 0, 2);
        heldAre("GREATEST is 1, SIZE 2", x, 2, 0, 3);
        x.setting(1, 2, 999.9);
        heldAre("GREATEST is cut to 999, SIZE 999", x, 999, 0, 3);
        heldAre("GREATEST is cut to 999, SIZE 1000", x, 1000, 0, 4);
        x.setting(1, 2, 1000);
        heldAre("GREATEST is 1000", x, 1000, 0, 4);
        x.setting(0, 2, 1);
        heldAre("another LIST's is its own", x, 1000, 0, 4);
    }

    private static void everySubjectMayBeBarred() {
        for (int barred = 0; barred < 10; barred++) {
            ListForge x = Worlds.openToAll();
            x.setting(1, 10 + barred, 1);
            for (int subject = 0; subject < 10; subject++) {
                int p = x.post(1, 4, 1, subject);
                Checks.same("BARRED " + barred + ", SUBJECT " + subject, x.count(2), p >= barred ? 1 : 0);
            }
            x.setting(1, 10 + barred, 0);
            x.post(1, 4, 1, barred);
            Checks.same("BARRED no more", x.count(2), 1);
        }
    }

    private static void rulesInTheirOrder() {
        ListForge x = Worlds.someOfEach();
        x.setting(0, 10, 1);
        x.setting(0, 1, 1);
        Checks.thrown("BANNED before all", Checks.UNSUPPORTED, () -> x.post(0, 6, 1000, 0));
        Checks.thrown("not LIVE before HELD", Checks.UNSUPPORTED, () -> x.post(0, 5, 1000, 0));
        x.post(0, 2, 1000, 0);
        Checks.same("a MODERATOR's before HELD", x.count(2), 1);
        Checks.same("it PASSED", x.count(3), 2);
        x.post(0, 1, 1000, 0);
        Checks.same("all that HELD can be for", x.count(2), 2);
        x.setting(0, 0, 1);
        x.moderator(0, 5, true);
        x.post(0, 5, 1000, 0);
        Checks.same("a STOPPED MODERATOR's where it is OPEN", x.count(3), 3);
        x.post(0, 4, 1, 1);
        Checks.same("WATCHED is for all others", x.count(2), 3);
        Checks.thrown("BANNED where it is OPEN", Checks.UNSUPPORTED, () -> x.post(0, 6, 1, 1));
    }

    private static void fullAtItsEdges() {
        int[] fulls = {1, 2, 200, 999, 1000};
        for (int full : fulls) {
            ListForge x = new ListForge();
            Checks.join(x, 0, 1, 1);
            x.setting(0, 2, 1000);
            if (full != 200) {
                x.setting(0, 3, full);
            }
            if (full > 1) {
                x.post(0, 1, full - 1, 0);
                Checks.same("one short of " + full, x.count(40), full - 1);
                Checks.same("nothing is sent", x.count(4), 1);
            }
            x.post(0, 1, 1, 0);
            Checks.same("just " + full, x.count(40), 0);
            Checks.same("its DIGEST", Checks.sentFrom(x, 1), full > 1 ? "1 0 1 2" : "1 0 1 1");
        }
    }

    private static void fullIsPassedByMuch() {
        ListForge x = new ListForge();
        Checks.join(x, 0, 1, 1);
        x.setting(0, 2, 1000);
        x.post(0, 1, 199, 0);
        x.post(0, 1, 1000, 0);
        Checks.same("one DIGEST of both", Checks.sentFrom(x, 1), "1 0 1 2");
        Checks.same("nothing is left over", x.count(40), 0);
        x.post(0, 1, 1000, 0);
        Checks.same("one post alone", Checks.sentFrom(x, 2), "1 0 1 1");
        x.post(0, 1, 7, 0);
        Checks.same("it begins anew", x.count(40), 7);
        Checks.same("with one post", x.count(30), 1);
    }

    private static void fullCountsOfEachListItsOwn() {
        ListForge x = new ListForge();
        for (int l = 0; l < 3; l++) {
            Checks.join(x, l, 1, 1);
            x.post(l, 1, 100, 0);
        }
        for (int l = 0; l < 3; l++) {
            Checks.same("its posts", x.count(30 + l), 1);
            Checks.same("its SIZES", x.count(40 + l), 100);
        }
        x.post(1, 1, 100, 0);
        Checks.same("the DIGEST of one", Checks.sentFrom(x, 3), "1 1 1 2");
        Checks.same("the others stay", x.count(30) + x.count(32), 2);
    }

    private static void aPassedPostComesIntoTheBundleForAnyReader() {
        ListForge x = Worlds.openToAll();
        int code = x.ask(0, 1, 1);
        x.post(0, 9, 1, 0);
        Checks.same("an ASKED reader", x.count(30), 0);
        x.confirm(code);
        x.post(0, 9, 1, 0);
        Checks.same("a LIVE reader", x.count(30), 1);
        x.post(0, 1, 1, 0);
        Checks.same("the sender is the reader", x.count(30), 2);
        x.setting(0, 4, 0.5);
        x.bounce(0, 1, false);
        x.post(0, 9, 1, 0);
        Checks.same("a STOPPED reader", x.count(30), 2);
        x.renew(0, 1);
        x.post(0, 9, 1, 0);
        Checks.same("a LIVE one again", x.count(30), 3);
        x.leave(0, 1);
        x.post(0, 9, 1, 0);
        Checks.same("one that left", x.count(30), 3);
        Checks.same("no post was sent by itself", x.count(4), 2);
    }

    private static void bestAtItsEdges() {
        ListForge x = new ListForge();
        Checks.join(x, 0, 1, 0);
        x.setting(0, 4, 10);
        for (int day = 1; day < 10; day++) {
            Checks.same("below 10", x.bounce(0, 1, true), (double) day);
            x.tick(1);
        }
        Checks.same("just below 10", x.bounce(0, 1, false), 9.5);
        Checks.same("LIVE", x.told(0, 1, 0), 1);
        x.tick(1);
        Checks.same("just 10", x.bounce(0, 1, false), 10.0);
        Checks.same("STOPPED", x.told(0, 1, 0), 2);
        Checks.join(x, 1, 1, 0);
        x.setting(1, 4, 0.5);
        Checks.same("just 0.5", x.bounce(1, 1, false), 0.5);
        Checks.same("STOPPED at 0.5", x.told(1, 1, 0), 2);
        Checks.join(x, 2, 1, 0);
        for (int day = 0; day < 2; day++) {
            x.bounce(2, 1, true);
            x.tick(1);
        }
        x.bounce(2, 1, false);
        Checks.same("2.5 is below 3", x.told(2, 1, 0), 1);
        x.tick(1);
        Checks.same("just 3", x.bounce(2, 1, false), 3.0);
        Checks.same("STOPPED at 3", x.told(2, 1, 0), 2);
    }

    private static void bestIsComparedAsADouble() {
        double[] bests = {Math.nextDown(1.0), 1, Math.nextUp(1.0)};
        int[] states = {2, 2, 1};
        for (int i = 0; i < bests.length; i++) {
            ListForge x = new ListForge();
            Checks.join(x, 0, 1, 0);
            x.setting(0, 4, bests[i]);
            Checks.same("the SCORE", x.bounce(0, 1, true), 1.0);
            Checks.same("the STATE at " + bests[i], x.told(0, 1, 0), states[i]);
        }
    }

    private static void oneBounceADay() {
        ListForge x = new ListForge();
        Checks.join(x, 0, 1, 0);
        for (int i = 0; i < 5; i++) {
            Checks.same("the first alone", x.bounce(0, 1, i == 0), 1.0);
        }
        x.tick(1);
        for (int i = 0; i < 5; i++) {
            Checks.same("the first alone, the next day", x.bounce(0, 1, i > 0), 1.5);
        }
        x.setting(0, 4, 1.5);
        x.bounce(0, 1, true);
        Checks.same("one that does not count stops nobody", x.told(0, 1, 0), 1);
        x.tick(1);
        x.bounce(0, 1, true);
        Checks.same("one that counts does", x.told(0, 1, 0), 2);
        x.renew(0, 1);
        Checks.same("LIVE again that day: none counts", x.bounce(0, 1, true), 0.0);
        x.tick(1);
        Checks.same("the next day it counts", x.bounce(0, 1, false), 0.5);
    }

    private static void oneBounceADayOfEachSubscription() {
        ListForge x = Worlds.everyoneLive();
        for (int l = 0; l < 3; l++) {
            for (int a = 0; a < 12; a++) {
                Checks.same("each counts its own", x.bounce(l, a, true), 1.0);
            }
        }
        x.leave(0, 1);
        Checks.join(x, 0, 1, 0);
        Checks.same("a new one counts its own", x.bounce(0, 1, false), 0.5);
    }

    private static void fadesBelowAQuarter() {
        ListForge x = new ListForge();
        Checks.join(x, 0, 1, 0);
        x.bounce(0, 1, false);
        double due = 0.5;
        x.tick(1);
        Checks.same("the day after it", x.score(0, 1), due);
        for (int day = 0; day < 5; day++) {
            x.tick(1);
            due = due * 0.875;
            Checks.same("it fades", x.score(0, 1), due);
        }
        Checks.same("not below 0.25 yet", due >= 0.25, true);
        x.tick(1);
        Checks.same("below 0.25 it is 0", x.score(0, 1), 0.0);
        Checks.same("it begins anew", x.bounce(0, 1, false), 0.5);
    }

    private static void fadesNotAfterADayWithABounce() {
        ListForge x = new ListForge();
        Checks.join(x, 0, 1, 0);
        Checks.join(x, 0, 2, 0);
        x.bounce(0, 1, true);
        x.tick(2);
        Checks.same("one day without", x.score(0, 1), 0.875);
        x.bounce(0, 1, true);
        x.tick(1);
        Checks.same("a day with one", x.score(0, 1), 1.875);
        x.tick(1);
        Checks.same("a day without", x.score(0, 1), 1.640625);
        Checks.same("nobody else has a SCORE", x.score(0, 2), 0.0);
    }

    private static void warningsEachThirdDay() {
        int[] latest = {1, 1, 1, 2, 2, 2, 3, 3, 3};
        for (int days = 0; days < latest.length; days++) {
            ListForge x = stoppedOnDayFour();
            if (days > 0) {
                x.tick(days);
            }
            Checks.same("after " + days, x.told(0, 1, 3), latest[days]);
            Checks.same("so many were sent", x.count(4), 1 + latest[days]);
            Checks.same("renew tells it", x.renew(0, 1), latest[days]);
            Checks.same("LIVE since then", x.told(0, 1, 4), 4 + days);
        }
        ListForge x = stoppedOnDayFour();
        x.tick(9);
        Checks.same("after 9 it goes", Checks.sentFrom(x, 1), "1 0 5 1, 1 0 5 2, 1 0 5 3, 1 0 6 0");
        Checks.same("nobody is there", x.count(10), 0);
    }

    private static ListForge stoppedOnDayFour() {
        ListForge x = new ListForge();
        Checks.join(x, 0, 1, 0);
        x.tick(4);
        x.setting(0, 4, 1);
        x.bounce(0, 1, true);
        return x;
    }

    private static void warningsBeginAnewWhenRenewed() {
        ListForge x = stoppedOnDayFour();
        x.tick(7);
        x.renew(0, 1);
        x.tick(1);
        x.bounce(0, 1, true);
        Checks.same("the first again", x.told(0, 1, 3), 1);
        x.tick(2);
        Checks.same("two days later", x.told(0, 1, 3), 1);
        x.tick(1);
        Checks.same("three days later", x.told(0, 1, 3), 2);
        x.tick(5);
        Checks.same("eight days later", x.count(10), 1);
        x.tick(1);
        Checks.same("nine days later", x.count(10), 0);
    }

    private static void askedFiveDaysAgo() {
        for (int first = 0; first < 3; first++) {
            ListForge x = new ListForge();
            if (first > 0) {
                x.tick(first);
            }
            int code = x.ask(0, 1, 0);
            x.tick(4);
            Checks.same("4 days ago", x.told(0, 1, 0), 0);
            x.ask(0, 2, 0);
            x.tick(1);
            Checks.thrown("5 days ago", Checks.NO_ELEMENT, () -> x.confirm(code));
            Checks.same("the other stays", x.count(10), 1);
            Checks.same("it may ask again", x.ask(0, 1, 0), 2001);
            Checks.same("a going is not sent", x.count(4), 3);
        }
        ListForge x = new ListForge();
        int code = x.ask(0, 1, 0);
        x.tick(4);
        x.confirm(code);
        x.tick(20);
        Checks.same("confirmed on the last day", x.told(0, 1, 0), 1);
    }

    private static void bundlesOfMoreThanTwoDays() {
        ListForge x = new ListForge();
        Checks.join(x, 0, 1, 1);
        x.post(0, 1, 1, 0);
        x.tick(1);
        x.post(0, 1, 1, 0);
        x.tick(1);
        x.post(0, 1, 1, 0);
        Checks.same("2 days ago", x.count(30), 3);
        x.tick(1);
        Checks.same("3 days ago: all go", Checks.sentFrom(x, 1), "1 0 1 3");
        x.post(0, 1, 1, 0);
        x.tick(2);
        Checks.same("the next one's 2 days", x.count(30), 1);
        x.leave(0, 1);
        x.tick(1);
        Checks.same("it is empty without readers, too", x.count(30), 0);
        Checks.same("and nothing is sent", x.count(4), 2);
    }

    private static void numbersOfWhatIsSent() {
        ListForge x = new ListForge();
        Checks.join(x, 2, 1, 0);
        Checks.join(x, 2, 2, 1);
        x.moderator(2, 2, true);
        x.post(2, 2, 1, 0);
        x.post(2, 1, 101, 0);
        x.judge(2, 1, 1);
        x.tick(3);
        x.setting(2, 4, 0.5);
        x.bounce(2, 1, false);
        x.tick(9);
        Checks.same("each sort with its number", Checks.sentFrom(x, 0), "1 2 2 0, 2 2 2 0, 1 2 0 0, "
                + "2 2 3 1, 1 2 4 1, 2 2 1 1, 1 2 5 1, 1 2 5 2, 1 2 5 3, 1 2 6 0");
    }
}
