/** Nothing there yet, and no room left: empty lists, bundles and rows, and those that are full. */
public final class EmptyAndFullTest {
    public static void main(String[] args) {
        aNewObjectHasNothing();
        aNewObjectAtTheBeginningOfDays();
        aPostToNobody();
        aPostToItsSenderAlone();
        silentOnesAreSentNoPosts();
        heldWithoutAModerator();
        everyPlaceIsTaken();
        everyPlaceIsLeft();
        aPostToEverybody();
        aDigestToEverybody();
        heldToEverybody();
        refusedPostsTakeNoRoom();
        droppedAndHeldPostsTakeRoom();
        fortyPostsCanStillBeJudged();
        theRowOfSentFillsWithinOneCall();
        theRowOfSentFillsWithinADay();
        aBundleOfAllPosts();
        theLastOfManyCalls();
        theLastOfManyDays();
        Checks.finish();
    }

    private static void countsAre(String when, ListForge x, int... due) {
        for (int what = 0; what < due.length; what++) {
            Checks.same(when + ": count " + what, x.count(what), due[what]);
        }
    }

    private static void ofListsAre(String when, ListForge x, int tens, int due) {
        for (int l = 0; l < Worlds.LISTS; l++) {
            Checks.same(when + ": count " + (tens + l), x.count(tens + l), due);
        }
    }

    private static void aNewObjectHasNothing() {
        ListForge x = new ListForge();
        countsAre("new", x, 0, 0, 0, 0, 0);
        for (int tens = 10; tens <= 40; tens += 10) {
            ofListsAre("new", x, tens, 0);
        }
        for (int l = 0; l < Worlds.LISTS; l++) {
            int list = l;
            for (int a = 0; a < Worlds.ADDRESSES; a++) {
                int address = a;
                Checks.thrown("new: leave", Checks.NO_ELEMENT, () -> x.leave(list, address));
                Checks.thrown("new: post", Checks.UNSUPPORTED, () -> x.post(list, address, 1, 0));
                Checks.same("new: BANNED", x.ban(l, a, false), false);
            }
        }
        Checks.thrown("new: judge", Checks.NO_ELEMENT, () -> x.judge(0, 0, 0));
        Checks.thrown("new: confirm of 0", Checks.NO_ELEMENT, () -> x.confirm(0));
        Checks.thrown("new: sent", Checks.BOUNDS, () -> x.sent(0, 0));
    }

    private static void aNewObjectAtTheBeginningOfDays() {
        ListForge x = new ListForge();
        Checks.same("20 days", x.tick(20), 20);
        countsAre("20 days", x, 20, 0, 0, 0, 0);
        for (int tens = 10; tens <= 40; tens += 10) {
            ofListsAre("20 days", x, tens, 0);
        }
    }

    private static void aPostToNobody() {
        ListForge x = Worlds.openToAll();
        Checks.same("to nobody", x.post(1, 4, 100, 0), 0);
        countsAre("to nobody", x, 0, 1, 0, 1, 0);
        Checks.same("no bundle", x.count(31), 0);
        Checks.same("no sizes", x.count(41), 0);
        x.setting(1, 3, 1);
        x.post(1, 4, 100, 0);
        countsAre("to nobody, FULL at once", x, 0, 2, 0, 2, 0);
        x.tick(3);
        Checks.same("nor is it sent later", x.count(4), 0);
    }

    private static void aPostToItsSenderAlone() {
        for (int way = 0; way < 3; way++) {
            ListForge x = new ListForge();
            Checks.join(x, 2, 11, way);
            x.setting(2, 3, 2);
            x.post(2, 11, 1, 0);
            Checks.same("not sent, WAY " + way, x.count(4), 1);
            Checks.same("in the bundle, WAY " + way, x.count(32), way == 1 ? 1 : 0);
            x.post(2, 11, 1, 0);
            Checks.same("the DIGEST, WAY " + way, Checks.sentFrom(x, 1), way == 1 ? "11 2 1 2" : "");
        }
    }

    private static void silentOnesAreSentNoPosts() {
        ListForge x = Worlds.openToAll();
        for (int a = 0; a < Worlds.ADDRESSES; a++) {
            Checks.join(x, 0, a, 2);
        }
        x.setting(0, 3, 1);
        x.post(0, 0, 50, 0);
        x.tick(3);
        Checks.same("SILENT ones alone", x.count(4), 12);
        Checks.same("no bundle for them", x.count(30), 0);
        Checks.same("it PASSED", x.count(3), 1);
    }

    private static void heldWithoutAModerator() {
        ListForge x = Worlds.openToAll();
        Checks.join(x, 0, 1, 0);
        Checks.same("HELD", x.post(0, 0, 101, 0), 0);
        countsAre("HELD", x, 0, 1, 1, 0, 1);
        Checks.same("no bundle", x.count(30), 0);
        x.moderator(0, 1, true);
        Checks.same("who is MODERATOR later may judge", x.judge(1, 0, 0), 0);
        Checks.same("and is sent it", Checks.sentFrom(x, 1), "1 0 0 0");
    }

    private static void everyPlaceIsTaken() {
        ListForge x = Worlds.everyoneAsked();
        ofListsAre("all ASKED", x, 10, 12);
        ofListsAre("all ASKED", x, 20, 0);
        for (int i = 0; i < 36; i++) {
            int l = i / 12;
            int a = i % 12;
            Checks.thrown("no other may ask", Checks.STATE, () -> x.ask(l, a, 0));
            Checks.same("confirm " + i, x.confirm(1000 * i + 100 * l + a), a);
            Checks.thrown("nor when it is LIVE", Checks.STATE, () -> x.ask(l, a, 0));
        }
        ofListsAre("all LIVE", x, 10, 12);
        ofListsAre("all LIVE", x, 20, 12);
        ListForge y = Worlds.everyoneStopped();
        ofListsAre("all STOPPED", y, 10, 12);
        ofListsAre("all STOPPED", y, 20, 0);
        Checks.same("each was sent a CONFIRM and a WARNING", y.count(4), 72);
    }

    private static void everyPlaceIsLeft() {
        ListForge x = Worlds.everyoneLive();
        for (int i = 0; i < 36; i++) {
            Checks.same("leave " + i, x.leave(i / 12, i % 12), 1);
            Checks.same("one less", x.count(10 + i / 12), 11 - i % 12);
        }
        Checks.same("the row of codes goes on", x.ask(0, 0, 0), 36000);
        ListForge y = Worlds.everyoneAsked();
        y.tick(5);
        ofListsAre("all ASKED go at once", y, 10, 0);
        ListForge z = Worlds.everyoneStopped();
        z.tick(9);
        ofListsAre("all STOPPED go at once", z, 10, 0);
        Checks.same("WARNINGS 2 and 3 and GONE to each", z.count(4), 72 + 3 * 36);
    }

    private static ListForge onListTwo(int way) {
        ListForge x = new ListForge();
        for (int a = Worlds.ADDRESSES - 1; a >= 0; a--) {
            Checks.join(x, 2, a, way);
        }
        return x;
    }

    private static String toAll(int but, String rest) {
        StringBuilder all = new StringBuilder();
        for (int a = 0; a < Worlds.ADDRESSES; a++) {
            if (a != but) {
                all.append(all.length() == 0 ? "" : ", ").append(a).append(' ').append(rest);
            }
        }
        return all.toString();
    }

    private static void aPostToEverybody() {
        for (int sender = 0; sender < Worlds.ADDRESSES; sender++) {
            ListForge x = onListTwo(0);
            x.post(2, sender, 1, 0);
            Checks.same("to all but " + sender, Checks.sentFrom(x, 12), toAll(sender, "2 0 0"));
        }
        ListForge x = Worlds.openToAll();
        for (int a = 0; a < 11; a++) {
            Checks.join(x, 2, a, 0);
        }
        x.post(2, 11, 1, 0);
        Checks.same("a stranger's to all", Checks.sentFrom(x, 11), toAll(11, "2 0 0"));
    }

    private static void aDigestToEverybody() {
        ListForge x = onListTwo(1);
        x.post(2, 3, 99, 0);
        x.post(2, 4, 100, 0);
        Checks.same("below FULL", x.count(4), 12);
        x.post(2, 5, 1, 0);
        Checks.same("to all, the senders too", Checks.sentFrom(x, 12), toAll(-1, "2 1 3"));
    }

    private static void heldToEverybody() {
        ListForge x = Worlds.openToAll();
        for (int a = 0; a < 11; a++) {
            Checks.join(x, 2, a, a % 3);
            x.moderator(2, a, true);
        }
        x.setting(2, 1, 1);
        x.post(2, 11, 1, 0);
        Checks.same("HELD to all", Checks.sentFrom(x, 11), toAll(11, "2 3 0"));
    }

    private static void refusedPostsTakeNoRoom() {
        ListForge x = new ListForge();
        Checks.join(x, 0, 1, 0);
        for (int p = 0; p < 40; p++) {
            Checks.thrown("refused", Checks.UNSUPPORTED, () -> x.post(0, 2, 1, 0));
            Checks.same("the next number", x.post(0, 1, 1, 0), p);
        }
        Checks.same("40", x.count(1), 40);
        Checks.thrown("no room", Checks.STATE, () -> x.post(0, 1, 1, 0));
    }

    private static ListForge heldPosts(int many) {
        ListForge x = Worlds.openToAll();
        Checks.join(x, 0, 1, 0);
        x.moderator(0, 1, true);
        for (int p = 0; p < many; p++) {
            Checks.same("HELD post", x.post(0, 2, 101, 0), p);
        }
        return x;
    }

    private static void droppedAndHeldPostsTakeRoom() {
        ListForge x = heldPosts(39);
        x.judge(1, 0, 2);
        x.judge(1, 1, 1);
        Checks.same("the 40th", x.post(1, 2, 1, 0), 39);
        Checks.thrown("the 41st", Checks.STATE, () -> x.post(1, 2, 1, 0));
        x.judge(1, 2, 2);
        Checks.thrown("a dropped one leaves no room", Checks.STATE, () -> x.post(0, 2, 1, 0));
        Checks.same("POSTS", x.count(1), 40);
        Checks.same("HELD", x.count(2), 36);
        Checks.same("PASSED", x.count(3), 1);
    }

    private static void fortyPostsCanStillBeJudged() {
        ListForge x = heldPosts(40);
        Checks.same("the last", x.judge(1, 39, 0), 39);
        Checks.same("the first", x.judge(1, 0, 0), 38);
        Checks.same("HELD", x.count(2), 38);
        Checks.thrown("one behind the last", Checks.NO_ELEMENT, () -> x.judge(1, 40, 0));
        for (int p = 1; p < 39; p++) {
            Checks.same("all that are left", x.judge(1, p, p % 3), 38 - p);
        }
        Checks.same("none is HELD", x.count(2), 0);
    }

    private static void theRowOfSentFillsWithinOneCall() {
        ListForge x = onListTwo(0);
        for (int p = 0; p < 4; p++) {
            x.post(2, 11, 1, 0);
        }
        Checks.same("sent so far", x.count(4), 56);
        Checks.thrown("the 57th", Checks.BOUNDS, () -> x.sent(56, 0));
        x.post(2, 11, 1, 0);
        Checks.same("all are counted", x.count(4), 67);
        Checks.same("the last that is kept", Checks.sentFrom(x, 59), "3 2 0 4");
        Checks.thrown("the first that is not", Checks.BOUNDS, () -> x.sent(60, 0));
        Checks.thrown("the last that was sent", Checks.BOUNDS, () -> x.sent(66, 0));
        x.post(2, 10, 1, 0);
        Checks.same("counted on", x.count(4), 78);
        Checks.same("what is kept stays", Checks.sentFrom(x, 59), "3 2 0 4");
        Checks.same("the first, too", x.sent(0, 0), 11);
    }

    private static void theRowOfSentFillsWithinADay() {
        ListForge x = Worlds.everyoneStopped();
        Checks.same("sent so far", x.count(4), 72);
        x.tick(3);
        Checks.same("WARNINGS are counted", x.count(4), 108);
        Checks.same("and told", x.told(2, 11, 3), 2);
        Checks.same("the last that is kept", Checks.sentFrom(x, 59), "11 1 5 1");
    }

    private static void aBundleOfAllPosts() {
        ListForge x = new ListForge();
        Checks.join(x, 0, 1, 1);
        x.setting(0, 3, 1000);
        for (int p = 1; p < 40; p++) {
            x.post(0, 1, 25, 0);
            Checks.same("posts in it", x.count(30), p);
            Checks.same("their SIZES", x.count(40), 25 * p);
        }
        x.post(0, 1, 24, 0);
        Checks.same("one short of FULL", x.count(40), 999);
        x.tick(3);
        Checks.same("all 40 in one DIGEST", Checks.sentFrom(x, 1), "1 0 1 40");
        Checks.same("it is empty", x.count(30), 0);
        Checks.same("it has no SIZES", x.count(40), 0);
    }

    private static void theLastOfManyCalls() {
        ListForge x = new ListForge();
        for (int i = 0; i < 255; i++) {
            x.ask(2, 11, 0);
            x.leave(2, 11);
        }
        Checks.same("the 511th call", x.ask(2, 11, 0), 255211);
        Checks.same("the 512th call", x.confirm(255211), 11);
    }

    private static void theLastOfManyDays() {
        ListForge x = new ListForge();
        Checks.join(x, 0, 0, 1);
        x.setting(0, 4, 10);
        x.bounce(0, 0, true);
        x.post(0, 0, 1, 0);
        for (int i = 0; i < 500; i++) {
            x.tick(20);
        }
        Checks.same("TODAY", x.count(0), 10000);
        Checks.same("its SCORE has faded", x.score(0, 0), 0.0);
        Checks.same("LIVE since the first day", x.told(0, 0, 4), 0);
        Checks.same("one DIGEST alone", Checks.sentFrom(x, 1), "0 0 1 1");
        Checks.same("a bounce counts", x.bounce(0, 0, false), 0.5);
    }
}
