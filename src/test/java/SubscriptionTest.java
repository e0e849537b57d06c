/** Promises 1 to 7: a new object, ask, confirm, leave, way, moderator, ban. */
public final class SubscriptionTest {
    public static void main(String[] args) {
        newObjectIsEmpty();
        askAndConfirm();
        askIsRefused();
        codesAreCountedOverAllLists();
        oldCodesAreGone();
        leaving();
        changingTheWay();
        moderators();
        aNewSubscriptionStartsAfresh();
        banning();
        Checks.finish();
    }

    private static void newObjectIsEmpty() {
        ListForge x = new ListForge();
        for (int what = 0; what < 5; what++) {
            Checks.same("new: count " + what, x.count(what), 0);
        }
        for (int l = 0; l < 3; l++) {
            for (int tens = 10; tens <= 40; tens += 10) {
                Checks.same("new: count " + (tens + l), x.count(tens + l), 0);
            }
            for (int a = 0; a < 12; a++) {
                int list = l;
                int address = a;
                Checks.thrown("new: told", Checks.NO_ELEMENT, () -> x.told(list, address, 0));
                Checks.same("new: nobody is banned", x.ban(l, a, false), false);
            }
        }
    }

    private static void askAndConfirm() {
        ListForge x = new ListForge();
        x.tick(2);
        Checks.same("ask", x.ask(2, 11, 1), 211);
        Checks.same("asked: state", x.told(2, 11, 0), 0);
        Checks.same("asked: way", x.told(2, 11, 1), 1);
        Checks.same("asked: since", x.told(2, 11, 4), 2);
        Checks.same("asked: count", x.count(12), 1);
        Checks.same("asked: none live", x.count(22), 0);
        Checks.same("CONFIRM is sent", Checks.sentFrom(x, 0), "11 2 2 0");
        x.tick(1);
        Checks.same("confirm", x.confirm(211), 11);
        Checks.same("confirmed: state", x.told(2, 11, 0), 1);
        Checks.same("confirmed: way", x.told(2, 11, 1), 1);
        Checks.same("confirmed: since", x.told(2, 11, 4), 3);
        Checks.same("confirmed: live", x.count(22), 1);
        Checks.same("confirm sends nothing", x.count(4), 1);
        Checks.thrown("confirm again", Checks.NO_ELEMENT, () -> x.confirm(211));
    }

    private static void askIsRefused() {
        ListForge x = new ListForge();
        Checks.join(x, 0, 0, 0);
        Checks.allThrow("ask with wrong numbers", Checks.ARGUMENT,
                () -> x.ask(-1, 0, 0), () -> x.ask(3, 0, 0), () -> x.ask(0, -1, 0),
                () -> x.ask(0, 12, 0), () -> x.ask(0, 0, -1), () -> x.ask(0, 0, 3),
                () -> x.ask(Integer.MAX_VALUE, 0, 0), () -> x.ask(0, Integer.MIN_VALUE, 0));
        Checks.thrown("ask when LIVE", Checks.STATE, () -> x.ask(0, 0, 1));
        x.ask(0, 1, 0);
        Checks.thrown("ask when ASKED", Checks.STATE, () -> x.ask(0, 1, 1));
        x.setting(0, 4, 0.5);
        x.bounce(0, 0, true);
        Checks.thrown("ask when STOPPED", Checks.STATE, () -> x.ask(0, 0, 1));
        x.ban(0, 2, true);
        Checks.thrown("ask when BANNED", Checks.UNSUPPORTED, () -> x.ask(0, 2, 0));
        Checks.same("refused ones send nothing", x.count(4), 3);
        Checks.same("refused ones are not counted as asked", x.ask(0, 3, 0), 2003);
        Checks.same("BANNED from that list alone", x.ask(1, 2, 0), 3102);
    }

    private static void codesAreCountedOverAllLists() {
        ListForge x = new ListForge();
        Checks.same("first code", x.ask(0, 0, 0), 0);
        Checks.same("second code", x.ask(1, 0, 0), 1100);
        Checks.same("third code", x.ask(2, 5, 0), 2205);
        Checks.same("confirm of the code 0", x.confirm(0), 0);
        Checks.same("confirm of the third", x.confirm(2205), 5);
        Checks.same("the second is still ASKED", x.told(1, 0, 0), 0);
        Checks.allThrow("codes of nobody", Checks.NO_ELEMENT, () -> x.confirm(0), () -> x.confirm(1),
                () -> x.confirm(-1), () -> x.confirm(100), () -> x.confirm(Integer.MAX_VALUE));
    }

    private static void oldCodesAreGone() {
        ListForge x = new ListForge();
        x.ask(0, 4, 0);
        x.leave(0, 4);
        Checks.thrown("the code of one that left", Checks.NO_ELEMENT, () -> x.confirm(4));
        Checks.same("asked anew", x.ask(0, 4, 0), 1004);
        Checks.thrown("the old code", Checks.NO_ELEMENT, () -> x.confirm(4));
        x.ban(0, 4, true);
        Checks.thrown("the code of a BANNED one", Checks.NO_ELEMENT, () -> x.confirm(1004));
    }

    private static void leaving() {
        ListForge x = new ListForge();
        x.ask(1, 3, 0);
        Checks.join(x, 1, 4, 0);
        Checks.join(x, 1, 5, 0);
        x.setting(1, 4, 1);
        x.bounce(1, 5, true);
        Checks.same("leave of an ASKED one", x.leave(1, 3), 0);
        Checks.same("leave of a LIVE one", x.leave(1, 4), 1);
        Checks.same("leave of a STOPPED one", x.leave(1, 5), 2);
        Checks.same("nobody is left", x.count(11), 0);
        Checks.thrown("leave again", Checks.NO_ELEMENT, () -> x.leave(1, 4));
        Checks.allThrow("leave with wrong numbers", Checks.ARGUMENT, () -> x.leave(-1, 0),
                () -> x.leave(3, 0), () -> x.leave(0, -1), () -> x.leave(0, 12));
        int sent = x.count(4);
        x.tick(10);
        Checks.same("nothing is sent to those that left", x.count(4), sent);
    }

    private static void changingTheWay() {
        ListForge x = new ListForge();
        x.ask(0, 6, 2);
        Checks.same("way of an ASKED one", x.way(0, 6, 0), 2);
        x.confirm(6);
        Checks.same("way of a LIVE one", x.way(0, 6, 1), 0);
        Checks.same("the same way", x.way(0, 6, 1), 1);
        x.setting(0, 4, 1);
        x.bounce(0, 6, true);
        Checks.same("way of a STOPPED one", x.way(0, 6, 2), 1);
        Checks.same("way told", x.told(0, 6, 1), 2);
        Checks.thrown("way of nobody", Checks.NO_ELEMENT, () -> x.way(0, 7, 1));
        Checks.allThrow("way with wrong numbers", Checks.ARGUMENT, () -> x.way(0, 6, 3),
                () -> x.way(0, 6, -1), () -> x.way(3, 6, 0), () -> x.way(-1, 6, 0),
                () -> x.way(0, 12, 0), () -> x.way(0, -1, 0), () -> x.way(0, 7, 3));
    }

    private static void moderators() {
        ListForge x = new ListForge();
        x.ask(0, 1, 0);
        Checks.thrown("an ASKED one", Checks.STATE, () -> x.moderator(0, 1, true));
        Checks.thrown("an ASKED one, off", Checks.STATE, () -> x.moderator(0, 1, false));
        x.confirm(1);
        Checks.same("on", x.moderator(0, 1, true), false);
        Checks.same("told", x.told(0, 1, 2), 1);
        Checks.same("on again", x.moderator(0, 1, true), true);
        Checks.same("off", x.moderator(0, 1, false), true);
        Checks.same("told off", x.told(0, 1, 2), 0);
        x.setting(0, 4, 1);
        x.bounce(0, 1, true);
        Checks.same("a STOPPED one", x.moderator(0, 1, true), false);
        x.renew(0, 1);
        Checks.same("it stays when renewed", x.told(0, 1, 2), 1);
        Checks.thrown("nobody", Checks.NO_ELEMENT, () -> x.moderator(1, 1, true));
        Checks.allThrow("moderator with wrong numbers", Checks.ARGUMENT,
                () -> x.moderator(3, 1, true), () -> x.moderator(-1, 1, true),
                () -> x.moderator(0, 12, true), () -> x.moderator(0, -1, true));
    }

    private static void aNewSubscriptionStartsAfresh() {
        ListForge x = new ListForge();
        Checks.join(x, 0, 1, 1);
        x.moderator(0, 1, true);
        x.setting(0, 4, 1);
        x.bounce(0, 1, true);
        x.leave(0, 1);
        int code = x.ask(0, 1, 0);
        Checks.same("asked anew: moderator", x.told(0, 1, 2), 0);
        Checks.same("asked anew: warning", x.told(0, 1, 3), 0);
        Checks.same("asked anew: score", x.score(0, 1), 0.0);
        x.confirm(code);
        Checks.same("confirmed anew: moderator", x.told(0, 1, 2), 0);
        Checks.same("confirmed anew: a bounce counts", x.bounce(0, 1, false), 0.5);
    }

    private static void banning() {
        ListForge x = new ListForge();
        Checks.join(x, 0, 1, 0);
        x.moderator(0, 1, true);
        Checks.same("ban", x.ban(0, 1, true), false);
        Checks.thrown("its subscription goes", Checks.NO_ELEMENT, () -> x.told(0, 1, 0));
        Checks.same("counted no more", x.count(10), 0);
        Checks.same("ban again", x.ban(0, 1, true), true);
        Checks.same("unban", x.ban(0, 1, false), true);
        Checks.same("unban again", x.ban(0, 1, false), false);
        Checks.same("unbanned: may ask", x.ask(0, 1, 0), 1001);
        Checks.same("no ban leaves the subscription", x.ban(0, 1, false), false);
        Checks.same("still there", x.told(0, 1, 0), 0);
        Checks.same("ban of an ASKED one", x.ban(0, 1, true), false);
        Checks.same("an ASKED one goes", x.count(10), 0);
        Checks.allThrow("ban with wrong numbers", Checks.ARGUMENT, () -> x.ban(3, 0, true),
                () -> x.ban(-1, 0, true), () -> x.ban(0, 12, true), () -> x.ban(0, -1, false));
    }
}
