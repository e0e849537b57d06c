/** Promises 9 and 10: post and judge, with the RULES, THE BUNDLE and what is sent for them. */
public final class PostTest {
    public static void main(String[] args) {
        numbersOfPosts();
        wrongPosts();
        whoMayPost();
        rulesThatHold();
        moderatorsPass();
        heldIsToldToModerators();
        deliveryBySingle();
        bundleIsFilled();
        bundleNeedsAReader();
        loweredFullWaitsForAPost();
        judging();
        judgingDeliversAsOfThen();
        theFirstAndTheLastAddress();
        wrongJudgements();
        Checks.finish();
    }

    private static ListForge withReaders() {
        ListForge x = new ListForge();
        Checks.join(x, 0, 5, 0);
        Checks.join(x, 0, 1, 0);
        Checks.join(x, 0, 3, 1);
        Checks.join(x, 0, 2, 2);
        return x;
    }

    private static void numbersOfPosts() {
        ListForge x = new ListForge();
        x.setting(0, 0, 1);
        x.setting(2, 0, 1);
        for (int p = 0; p < 40; p++) {
            Checks.same("number", x.post(p % 2 * 2, p % 12, 1, p % 10), p);
        }
        Checks.same("all are counted", x.count(1), 40);
        Checks.same("all PASSED", x.count(3), 40);
        Checks.thrown("the 41st", Checks.STATE, () -> x.post(0, 0, 1, 0));
        Checks.thrown("that there are 40 is seen before a refusal", Checks.STATE, () -> x.post(1, 0, 1, 0));
        Checks.thrown("a wrong number is seen first", Checks.ARGUMENT, () -> x.post(0, 0, 0, 0));
        Checks.same("still 40", x.count(1), 40);
    }

    private static void wrongPosts() {
        ListForge x = withReaders();
        Checks.allThrow("post with wrong numbers", Checks.ARGUMENT, () -> x.post(-1, 1, 1, 0),
                () -> x.post(3, 1, 1, 0), () -> x.post(0, -1, 1, 0), () -> x.post(0, 12, 1, 0),
                () -> x.post(0, 1, 0, 0), () -> x.post(0, 1, 1001, 0), () -> x.post(0, 1, -5, 0),
                () -> x.post(0, 1, 1, -1), () -> x.post(0, 1, 1, 10),
                () -> x.post(0, 9, 1, 10), () -> x.post(0, 9, 0, 0));
        Checks.same("none came in", x.count(1), 0);
        x.setting(0, 2, 1000);
        Checks.same("the greatest size and subject", x.post(0, 1, 1000, 9), 0);
        Checks.same("PASSED", x.count(3), 1);
    }

    private static void whoMayPost() {
        ListForge x = withReaders();
        x.ask(0, 4, 0);
        x.setting(0, 4, 1);
        x.bounce(0, 5, true);
        x.ban(0, 7, true);
        Checks.thrown("a stranger", Checks.UNSUPPORTED, () -> x.post(0, 9, 1, 0));
        Checks.thrown("an ASKED one", Checks.UNSUPPORTED, () -> x.post(0, 4, 1, 0));
        Checks.thrown("a STOPPED one", Checks.UNSUPPORTED, () -> x.post(0, 5, 1, 0));
        Checks.thrown("a BANNED one", Checks.UNSUPPORTED, () -> x.post(0, 7, 1, 0));
        Checks.thrown("LIVE on another list", Checks.UNSUPPORTED, () -> x.post(1, 1, 1, 0));
        Checks.same("refused ones are not counted", x.count(1), 0);
        x.setting(0, 0, 1);
        Checks.same("OPEN: a stranger", x.post(0, 9, 1, 0), 0);
        Checks.same("OPEN: an ASKED one", x.post(0, 4, 1, 0), 1);
        Checks.same("OPEN: a STOPPED one", x.post(0, 5, 1, 0), 2);
        Checks.thrown("OPEN: a BANNED one", Checks.UNSUPPORTED, () -> x.post(0, 7, 1, 0));
        Checks.same("all PASSED", x.count(3), 3);
        x.ban(0, 7, false);
        Checks.same("BANNED no more", x.post(0, 7, 1, 0), 3);
    }

    private static void rulesThatHold() {
        ListForge x = withReaders();
        x.setting(0, 12, 1);
        x.post(0, 1, 100, 0);
        Checks.same("as great as GREATEST", x.count(2), 0);
        x.post(0, 1, 101, 0);
        Checks.same("greater than GREATEST", x.count(2), 1);
        x.post(0, 1, 1, 2);
        Checks.same("a BARRED subject", x.count(2), 2);
        x.post(0, 1, 1, 3);
        Checks.same("another subject", x.count(2), 2);
        x.setting(0, 1, 1);
        x.post(0, 1, 1, 3);
        Checks.same("WATCHED", x.count(2), 3);
        x.setting(0, 0, 1);
        x.post(0, 9, 1, 3);
        Checks.same("WATCHED, a stranger", x.count(2), 4);
        x.setting(1, 0, 1);
        x.post(1, 1, 1, 2);
        Checks.same("another list holds nothing", x.count(2), 4);
        Checks.same("PASSED", x.count(3), 3);
        Checks.same("all", x.count(1), 7);
    }

    private static void moderatorsPass() {
        ListForge x = withReaders();
        x.moderator(0, 1, true);
        x.setting(0, 1, 1);
        x.setting(0, 12, 1);
        x.post(0, 1, 1000, 2);
        Checks.same("a MODERATOR's passes all rules", x.count(3), 1);
        x.setting(0, 4, 1);
        x.bounce(0, 1, true);
        Checks.thrown("a STOPPED MODERATOR is not LIVE", Checks.UNSUPPORTED, () -> x.post(0, 1, 1, 0));
        x.setting(0, 0, 1);
        x.post(0, 1, 1000, 2);
        Checks.same("a STOPPED MODERATOR where it is OPEN", x.count(3), 2);
        Checks.join(x, 1, 1, 0);
        x.setting(1, 1, 1);
        x.post(1, 1, 1, 0);
        Checks.same("MODERATOR of another list", x.count(2), 1);
    }

    private static void heldIsToldToModerators() {
        ListForge x = withReaders();
        x.moderator(0, 5, true);
        x.moderator(0, 2, true);
        x.moderator(0, 3, true);
        x.setting(0, 4, 1);
        x.bounce(0, 3, true);
        int before = x.count(4);
        x.post(0, 1, 1, 0);
        int heldFrom = x.count(4);
        Checks.same("a post is sent", heldFrom - before, 1);
        x.post(0, 1, 500, 0);
        Checks.same("HELD, by addresses, also to SILENT and STOPPED ones", Checks.sentFrom(x, heldFrom),
                "2 0 3 1, 3 0 3 1, 5 0 3 1");
    }

    private static void deliveryBySingle() {
        ListForge x = withReaders();
        Checks.join(x, 0, 8, 0);
        x.ask(0, 9, 0);
        Checks.join(x, 1, 10, 0);
        Checks.join(x, 0, 11, 0);
        x.setting(0, 4, 1);
        x.bounce(0, 11, true);
        x.setting(0, 0, 1);
        int from = x.count(4);
        x.post(0, 5, 1, 0);
        Checks.same("to SINGLE ones but the sender", Checks.sentFrom(x, from), "1 0 0 0, 8 0 0 0");
        from = x.count(4);
        x.post(0, 7, 1, 0);
        Checks.same("of a stranger", Checks.sentFrom(x, from), "1 0 0 1, 5 0 0 1, 8 0 0 1");
        from = x.count(4);
        x.post(0, 2, 1, 0);
        Checks.same("of a SILENT one", Checks.sentFrom(x, from), "1 0 0 2, 5 0 0 2, 8 0 0 2");
    }

    private static void bundleIsFilled() {
        ListForge x = withReaders();
        Checks.join(x, 0, 0, 1);
        Checks.join(x, 1, 4, 1);
        x.post(0, 1, 100, 0);
        Checks.same("posts in it", x.count(30), 1);
        Checks.same("their sizes", x.count(40), 100);
        x.post(0, 3, 99, 0);
        Checks.same("below FULL", x.count(30), 2);
        Checks.same("their sizes below FULL", x.count(40), 199);
        Checks.same("another list's is empty", x.count(31), 0);
        int from = x.count(4);
        x.post(0, 1, 1, 0);
        Checks.same("posts first, then the DIGESTS", Checks.sentFrom(x, from),
                "5 0 0 2, 0 0 1 3, 3 0 1 3");
        Checks.same("empty", x.count(30), 0);
        Checks.same("no sizes", x.count(40), 0);
        x.setting(0, 3, 1);
        from = x.count(4);
        x.post(0, 3, 1, 0);
        Checks.same("at once, also to its sender", Checks.sentFrom(x, from),
                "1 0 0 3, 5 0 0 3, 0 0 1 1, 3 0 1 1");
    }

    private static void bundleNeedsAReader() {
        ListForge x = new ListForge();
        Checks.join(x, 0, 1, 0);
        x.ask(0, 2, 1);
        x.post(0, 1, 10, 0);
        Checks.same("an ASKED reader does not count", x.count(30), 0);
        x.confirm(1002);
        x.post(0, 1, 10, 0);
        Checks.same("a LIVE one does", x.count(30), 1);
        x.way(0, 2, 0);
        x.post(0, 1, 10, 0);
        Checks.same("nor one who is SINGLE now", x.count(30), 1);
        x.way(0, 1, 1);
        x.post(0, 1, 10, 0);
        Checks.same("the sender alone counts", x.count(40), 20);
        x.setting(0, 4, 1);
        x.bounce(0, 1, true);
        x.post(0, 2, 10, 0);
        Checks.same("a STOPPED reader does not count", x.count(40), 20);
    }

    private static void loweredFullWaitsForAPost() {
        ListForge x = withReaders();
        x.post(0, 1, 50, 0);
        int from = x.count(4);
        x.setting(0, 3, 40);
        Checks.same("a setting sends nothing", x.count(4), from);
        Checks.same("the post stays", x.count(30), 1);
        x.post(0, 1, 1, 0);
        Checks.same("the next one brings it", Checks.sentFrom(x, from), "5 0 0 1, 3 0 1 2");
        x.setting(0, 3, 200);
        x.post(0, 1, 50, 0);
        x.leave(0, 3);
        x.setting(0, 3, 50);
        from = x.count(4);
        x.post(0, 1, 1, 0);
        Checks.same("it goes with nobody to send it to", Checks.sentFrom(x, from), "5 0 0 3");
        Checks.same("and is empty", x.count(30), 0);
    }

    private static void judging() {
        ListForge x = withReaders();
        x.moderator(0, 2, true);
        x.setting(0, 1, 1);
        for (int p = 0; p < 4; p++) {
            x.post(0, 1, 10, 0);
        }
        int from = x.count(4);
        Checks.same("let pass", x.judge(2, 3, 0), 3);
        Checks.same("it is sent", Checks.sentFrom(x, from), "5 0 0 3");
        Checks.same("it is in the bundle", x.count(30), 1);
        from = x.count(4);
        Checks.same("reject", x.judge(2, 0, 1), 2);
        Checks.same("REJECTED is sent", Checks.sentFrom(x, from), "1 0 4 0");
        from = x.count(4);
        Checks.same("drop", x.judge(2, 1, 2), 1);
        Checks.same("nothing is sent", x.count(4), from);
        Checks.same("one is HELD", x.count(2), 1);
        Checks.same("one PASSED", x.count(3), 1);
        Checks.same("all are POSTS", x.count(1), 4);
        for (int p = 0; p < 4; p++) {
            int judged = p;
            if (p != 2) {
                Checks.thrown("not HELD any more", Checks.NO_ELEMENT, () -> x.judge(2, judged, 0));
            }
        }
        Checks.join(x, 1, 0, 0);
        x.setting(1, 1, 1);
        x.post(1, 0, 1, 0);
        Checks.same("HELD ones of all lists are counted", x.judge(2, 2, 2), 1);
    }

    private static void judgingDeliversAsOfThen() {
        ListForge x = withReaders();
        x.moderator(0, 3, true);
        x.post(0, 1, 300, 0);
        x.post(0, 5, 300, 0);
        x.leave(0, 1);
        x.ban(0, 5, true);
        Checks.join(x, 0, 9, 0);
        x.setting(0, 4, 1);
        x.bounce(0, 3, true);
        int from = x.count(4);
        Checks.same("a STOPPED MODERATOR judges", x.judge(3, 0, 0), 1);
        Checks.same("to those LIVE now", Checks.sentFrom(x, from), "9 0 0 0");
        Checks.same("no reader of digests", x.count(30), 0);
        from = x.count(4);
        x.judge(3, 1, 1);
        Checks.same("REJECTED to a BANNED sender", Checks.sentFrom(x, from), "5 0 4 1");
    }

    private static void theFirstAndTheLastAddress() {
        ListForge x = new ListForge();
        Checks.join(x, 2, 0, 0);
        Checks.join(x, 2, 11, 0);
        x.moderator(2, 0, true);
        x.moderator(2, 11, true);
        x.setting(2, 0, 1);
        x.setting(2, 1, 1);
        int from = x.count(4);
        x.post(2, 5, 1, 0);
        x.post(2, 5, 1, 0);
        Checks.same("both are told", Checks.sentFrom(x, from), "0 2 3 0, 11 2 3 0, 0 2 3 1, 11 2 3 1");
        from = x.count(4);
        Checks.same("the first judges", x.judge(0, 0, 0), 1);
        Checks.same("the last judges", x.judge(11, 1, 0), 0);
        Checks.same("both are sent the posts", Checks.sentFrom(x, from), "0 2 0 0, 11 2 0 0, 0 2 0 1, 11 2 0 1");
    }

    private static void wrongJudgements() {
        ListForge x = withReaders();
        Checks.join(x, 1, 6, 0);
        x.moderator(1, 6, true);
        x.post(0, 1, 500, 0);
        x.post(0, 1, 5, 0);
        Checks.allThrow("judge with wrong numbers", Checks.ARGUMENT, () -> x.judge(-1, 0, 0),
                () -> x.judge(12, 0, 0), () -> x.judge(6, 0, -1), () -> x.judge(6, 0, 3),
                () -> x.judge(12, 99, 0), () -> x.judge(6, -1, 3));
        Checks.allThrow("no such post", Checks.NO_ELEMENT, () -> x.judge(6, 2, 0),
                () -> x.judge(6, -1, 0), () -> x.judge(6, 40, 0), () -> x.judge(6, 1000, 0),
                () -> x.judge(6, Integer.MIN_VALUE, 0), () -> x.judge(6, Integer.MAX_VALUE, 0));
        Checks.thrown("it PASSED", Checks.NO_ELEMENT, () -> x.judge(6, 1, 0));
        Checks.allThrow("no MODERATOR of its list", Checks.UNSUPPORTED, () -> x.judge(6, 0, 0),
                () -> x.judge(1, 0, 1), () -> x.judge(11, 0, 2));
        x.moderator(0, 5, true);
        x.leave(0, 5);
        Checks.thrown("one that left", Checks.UNSUPPORTED, () -> x.judge(5, 0, 0));
        Checks.same("still HELD", x.count(2), 1);
    }
}
