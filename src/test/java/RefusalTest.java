import java.util.function.Consumer;
import java.util.function.Supplier;

/**
 * Each exception that a promise names, in each of the states that call for it, and which comes first
 * where two are due. What is refused for a number out of its range stands in RangeTest.
 */
public final class RefusalTest {
    public static void main(String[] args) {
        promise2Ask();
        promise3Confirm();
        promise3ConfirmOfOldCodes();
        promise4To15NobodyThere();
        promise6Moderator();
        promise9PostRefused();
        promise9PostTooMany();
        promise10JudgeNoSuchPost();
        promise10JudgeNoModerator();
        promise11Bounce();
        promise12Renew();
        numbersComeFirst();
        Checks.finish();
    }

    private static void refused(String what, Class<?> due, Consumer<ListForge> call) {
        Edges.refused(what, due, Worlds::someOfEach, call);
    }

    private static void promise2Ask() {
        for (int way = 0; way < 3; way++) {
            int asked = way;
            refused("ask: there is a LIVE one", Checks.STATE, x -> x.ask(0, 1, asked));
            refused("ask: there is an ASKED one", Checks.STATE, x -> x.ask(0, 4, asked));
            refused("ask: there is a STOPPED one", Checks.STATE, x -> x.ask(0, 5, asked));
            refused("ask: it is BANNED", Checks.UNSUPPORTED, x -> x.ask(0, 6, asked));
        }
        Edges.refused("ask: BANNED when it was LIVE", Checks.UNSUPPORTED,
                after(x -> x.ban(0, 1, true)), x -> x.ask(0, 1, 0));
        Edges.refused("ask: BANNED twice", Checks.UNSUPPORTED,
                after(x -> x.ban(0, 6, true)), x -> x.ask(0, 6, 0));
        Checks.same("BANNED from another LIST", Worlds.someOfEach().ask(1, 6, 0), 6106);
        Checks.same("there is one of another LIST", Worlds.someOfEach().ask(2, 1, 0), 6201);
    }

    private static Supplier<ListForge> after(Consumer<ListForge> call) {
        return () -> {
            ListForge x = Worlds.someOfEach();
            call.accept(x);
            return x;
        };
    }

    private static void promise3Confirm() {
        Checks.same("the ASKED one's code", Worlds.someOfEach().confirm(3004), 4);
        int[] others = {3003, 3005, 2004, 4004, 3104, 4, -3004, 0, -1, Integer.MIN_VALUE,
                Integer.MAX_VALUE, 3004 + (1 << 16), 6000, 6007};
        for (int code : others) {
            refused("confirm of " + code, Checks.NO_ELEMENT, x -> x.confirm(code));
            Edges.refused("confirm where nobody asked", Checks.NO_ELEMENT, ListForge::new,
                    x -> x.confirm(code));
        }
    }

    private static void promise3ConfirmOfOldCodes() {
        refused("confirm of a LIVE one", Checks.NO_ELEMENT, x -> x.confirm(1));
        refused("confirm of a STOPPED one", Checks.NO_ELEMENT, x -> x.confirm(4005));
        Edges.refused("confirm of one that is LIVE by it", Checks.NO_ELEMENT,
                after(x -> x.confirm(3004)), x -> x.confirm(3004));
        Edges.refused("confirm of one that left", Checks.NO_ELEMENT,
                after(x -> x.leave(0, 4)), x -> x.confirm(3004));
        Edges.refused("confirm of one that is BANNED", Checks.NO_ELEMENT,
                after(x -> x.ban(0, 4, true)), x -> x.confirm(3004));
        Edges.refused("confirm after 5 days", Checks.NO_ELEMENT,
                after(x -> x.tick(5)), x -> x.confirm(3004));
        Supplier<ListForge> askedAnew = after(x -> {
            x.leave(0, 4);
            x.ask(0, 4, 1);
        });
        Edges.refused("confirm by the code before", Checks.NO_ELEMENT, askedAnew, x -> x.confirm(3004));
        Checks.same("confirm by the new code", askedAnew.get().confirm(6004), 4);
    }

    private static void promise4To15NobodyThere() {
        nobodyThere("leave", (x, l, a) -> x.leave(l, a));
        nobodyThere("way", (x, l, a) -> x.way(l, a, 0));
        nobodyThere("moderator", (x, l, a) -> x.moderator(l, a, true));
        nobodyThere("no moderator", (x, l, a) -> x.moderator(l, a, false));
        nobodyThere("hard bounce", (x, l, a) -> x.bounce(l, a, true));
        nobodyThere("soft bounce", (x, l, a) -> x.bounce(l, a, false));
        nobodyThere("renew", (x, l, a) -> x.renew(l, a));
        for (int what = 0; what < 5; what++) {
            int asked = what;
            nobodyThere("told", (x, l, a) -> x.told(l, a, asked));
        }
        nobodyThere("score", (x, l, a) -> x.score(l, a));
    }

    private interface PlaceCall {
        void make(ListForge x, int l, int a);
    }

    private static void nobodyThere(String what, PlaceCall call) {
        Edges.refused(what + ": nobody yet", Checks.NO_ELEMENT, ListForge::new, x -> call.make(x, 0, 0));
        refused(what + ": never asked", Checks.NO_ELEMENT, x -> call.make(x, 0, 0));
        refused(what + ": on another LIST alone", Checks.NO_ELEMENT, x -> call.make(x, 2, 1));
        refused(what + ": a BANNED one", Checks.NO_ELEMENT, x -> call.make(x, 0, 6));
        Edges.refused(what + ": it left", Checks.NO_ELEMENT, after(x -> x.leave(0, 1)),
                x -> call.make(x, 0, 1));
        Edges.refused(what + ": BANNED when it was LIVE", Checks.NO_ELEMENT,
                after(x -> x.ban(0, 1, true)), x -> call.make(x, 0, 1));
        Edges.refused(what + ": BANNED, and no more", Checks.NO_ELEMENT, after(x -> {
            x.ban(0, 1, true);
            x.ban(0, 1, false);
        }), x -> call.make(x, 0, 1));
        Edges.refused(what + ": ASKED 5 days ago", Checks.NO_ELEMENT, after(x -> x.tick(5)),
                x -> call.make(x, 0, 4));
        Edges.refused(what + ": STOPPED 9 days ago", Checks.NO_ELEMENT, after(x -> x.tick(9)),
                x -> call.make(x, 0, 5));
    }

    private static void promise6Moderator() {
        refused("moderator: an ASKED one", Checks.STATE, x -> x.moderator(0, 4, true));
        refused("no moderator: an ASKED one", Checks.STATE, x -> x.moderator(0, 4, false));
        Supplier<ListForge> asksAgain = after(x -> {
            x.leave(0, 2);
            x.ask(0, 2, 0);
        });
        Edges.refused("moderator: ASKED, and was one before", Checks.STATE, asksAgain,
                x -> x.moderator(0, 2, true));
        Checks.same("moderator: a LIVE one", Worlds.someOfEach().moderator(0, 1, true), false);
        Checks.same("moderator: a STOPPED one", Worlds.someOfEach().moderator(0, 5, true), false);
    }

    private static void promise9PostRefused() {
        refused("post: nobody", Checks.UNSUPPORTED, x -> x.post(0, 0, 1, 0));
        refused("post: an ASKED one", Checks.UNSUPPORTED, x -> x.post(0, 4, 1, 0));
        refused("post: a STOPPED one", Checks.UNSUPPORTED, x -> x.post(0, 5, 1, 0));
        refused("post: a BANNED one", Checks.UNSUPPORTED, x -> x.post(0, 6, 1, 0));
        refused("post: LIVE on another LIST", Checks.UNSUPPORTED, x -> x.post(2, 1, 1, 0));
        refused("post: refused before it is HELD", Checks.UNSUPPORTED, x -> x.post(0, 0, 1000, 0));
        refused("post: refused where all are HELD", Checks.UNSUPPORTED, x -> x.post(1, 2, 1, 0));
        Edges.refused("post: a STOPPED MODERATOR", Checks.UNSUPPORTED,
                after(x -> x.moderator(0, 5, true)), x -> x.post(0, 5, 1, 0));
        Edges.refused("post: a BANNED one where it is OPEN", Checks.UNSUPPORTED,
                after(x -> x.setting(0, 0, 1)), x -> x.post(0, 6, 1, 0));
        Edges.refused("post: a BANNED MODERATOR where it is OPEN", Checks.UNSUPPORTED, after(x -> {
            x.setting(0, 0, 1);
            x.ban(0, 2, true);
        }), x -> x.post(0, 2, 1, 0));
        Edges.refused("post: OPEN no more", Checks.UNSUPPORTED, after(x -> {
            x.setting(0, 0, 1);
            x.setting(0, 0, 0);
        }), x -> x.post(0, 0, 1, 0));
    }

    private static void promise9PostTooMany() {
        Edges.refused("post: there are 40", Checks.STATE, Worlds::fullOfPosts, x -> x.post(0, 0, 1, 0));
        Edges.refused("post: there are 40, of another LIST", Checks.STATE, Worlds::fullOfPosts,
                x -> x.post(1, 0, 1, 0));
        Edges.refused("post: there are 40, and it may not", Checks.STATE, Worlds::fullOfPosts,
                x -> x.post(2, 0, 1, 0));
        Edges.refused("post: there are 40, and a SIZE is wrong", Checks.ARGUMENT, Worlds::fullOfPosts,
                x -> x.post(0, 0, 0, 0));
    }

    private static void promise10JudgeNoSuchPost() {
        int[] none = {2, 39, 40, 41, -1, -2, Integer.MIN_VALUE, Integer.MAX_VALUE, 1 + (1 << 8), 1 + (1 << 16)};
        for (int how = 0; how < 3; how++) {
            int judged = how;
            for (int p : none) {
                refused("judge: no post " + p, Checks.NO_ELEMENT, x -> x.judge(2, p, judged));
                Edges.refused("judge: no posts", Checks.NO_ELEMENT, ListForge::new,
                        x -> x.judge(2, p, judged));
            }
            refused("judge: it PASSED", Checks.NO_ELEMENT, x -> x.judge(2, 0, judged));
            refused("judge: it PASSED, and m is nobody", Checks.NO_ELEMENT, x -> x.judge(0, 0, judged));
            for (int before = 0; before < 3; before++) {
                int first = before;
                Edges.refused("judge: judged before as " + before, Checks.NO_ELEMENT,
                        after(x -> x.judge(2, 1, first)), x -> x.judge(2, 1, judged));
            }
        }
    }

    private static void promise10JudgeNoModerator() {
        int[] others = {0, 1, 3, 4, 5, 6, 11};
        for (int m : others) {
            refused("judge: " + m + " is no MODERATOR there", Checks.UNSUPPORTED, x -> x.judge(m, 1, 0));
        }
        Edges.refused("judge: MODERATOR no more", Checks.UNSUPPORTED,
                after(x -> x.moderator(0, 2, false)), x -> x.judge(2, 1, 1));
        Edges.refused("judge: it left", Checks.UNSUPPORTED, after(x -> x.leave(0, 2)),
                x -> x.judge(2, 1, 2));
        Edges.refused("judge: it is BANNED", Checks.UNSUPPORTED, after(x -> x.ban(0, 2, true)),
                x -> x.judge(2, 1, 0));
        Edges.refused("judge: it is GONE", Checks.UNSUPPORTED, after(x -> {
            x.moderator(0, 5, true);
            x.tick(9);
        }), x -> x.judge(5, 1, 0));
        Edges.refused("judge: it left and is LIVE again", Checks.UNSUPPORTED, after(x -> {
            x.leave(0, 2);
            Checks.join(x, 0, 2, 0);
        }), x -> x.judge(2, 1, 0));
    }

    private static void promise11Bounce() {
        refused("bounce: ASKED", Checks.STATE, x -> x.bounce(0, 4, true));
        refused("soft bounce: ASKED", Checks.STATE, x -> x.bounce(0, 4, false));
        refused("bounce: STOPPED", Checks.STATE, x -> x.bounce(0, 5, true));
        Edges.refused("bounce: STOPPED days ago", Checks.STATE, after(x -> x.tick(8)),
                x -> x.bounce(0, 5, false));
    }

    private static void promise12Renew() {
        refused("renew: LIVE", Checks.STATE, x -> x.renew(0, 1));
        refused("renew: ASKED", Checks.STATE, x -> x.renew(0, 4));
        Edges.refused("renew: renewed before", Checks.STATE, after(x -> x.renew(0, 5)),
                x -> x.renew(0, 5));
    }

    private static void numbersComeFirst() {
        refused("ask: a LIVE one, of no WAY", Checks.ARGUMENT, x -> x.ask(0, 1, 3));
        refused("ask: a BANNED one, of no WAY", Checks.ARGUMENT, x -> x.ask(0, 6, -1));
        refused("way: nobody, of no WAY", Checks.ARGUMENT, x -> x.way(0, 0, 3));
        refused("told: nobody, of no what", Checks.ARGUMENT, x -> x.told(0, 0, 5));
        refused("post: nobody, of no SUBJECT", Checks.ARGUMENT, x -> x.post(0, 0, 1, 10));
        refused("post: a BANNED one, of no SIZE", Checks.ARGUMENT, x -> x.post(0, 6, 1001, 0));
        refused("judge: no MODERATOR, of no how", Checks.ARGUMENT, x -> x.judge(1, 1, 3));
        refused("judge: no post, of no how", Checks.ARGUMENT, x -> x.judge(2, 2, -1));
        refused("judge: no post, of no ADDRESS", Checks.ARGUMENT, x -> x.judge(12, -1, 0));
        refused("setting: of no LIST, of no what", Checks.ARGUMENT, x -> x.setting(3, 5, -1));
    }
}
