import java.util.NoSuchElementException;
import java.util.Random;

/**
 * Runs of 512 calls by a fixed seed: what must hold of every call, whatever its arguments. Looking
 * at the object between them makes more calls than the document promises answers to; the program
 * has no limit there, and this test leans on that.
 */
public final class LongRunTest {
    private static final int RUNS = 60;
    private static final int CALLS = 512;
    // How often each kind of call comes, so that lists fill and posts and bounces find readers.
    private static final int[] KINDS =
            {0, 0, 0, 0, 1, 1, 1, 1, 2, 3, 4, 4, 5, 6, 7, 7, 7, 7, 8, 8, 8, 9, 9, 9, 10, 11};

    public static void main(String[] args) {
        for (int seed = 0; seed < RUNS; seed++) {
            run(seed);
        }
        Checks.finish();
    }

    private static void run(int seed) {
        Random random = new Random(seed);
        ListForge x = new ListForge();
        ListForge twin = new ListForge();
        boolean wild = seed % 3 == 0;
        int latestCode = 0;
        for (int i = 0; i < CALLS; i++) {
            int[] call = new int[5];
            call[0] = KINDS[random.nextInt(KINDS.length)];
            for (int n = 1; n < call.length; n++) {
                call[n] = wild && random.nextInt(8) == 0 ? random.nextInt() : random.nextInt(14) - 1;
            }
            if (call[0] == 1 && call[1] != 0) {
                call[4] = latestCode;
            }
            String before = pictureOf(x);
            String answer = answerOf(x, call);
            String name = "run " + seed + " call " + i;
            Checks.same(name + " again", answerOf(twin, call), answer);
            Checks.same(name + " " + answer, answer.startsWith("failed"), false);
            if (call[0] == 0 && !answer.startsWith("throws")) {
                latestCode = (int) Double.parseDouble(answer);
            }
            if (answer.startsWith("throws")) {
                Checks.same(name + " threw and changed nothing", pictureOf(x), before);
            }
            countsAgree(name, x);
        }
    }

    private static String answerOf(ListForge x, int[] call) {
        try {
            return String.valueOf(made(x, call));
        } catch (RuntimeException e) {
            return isDeclared(e.getClass(), call[0]) ? "throws " + e.getClass().getName() : "failed by " + e;
        }
    }

    /** The numbers are folded where most of a range would be refused, so that runs get somewhere. */
    private static double made(ListForge x, int[] call) {
        int l = call[1] < 10 ? call[1] % 2 : call[1] % 4;
        int a = call[2];
        int third = call[3];
        boolean is = third % 2 == 0;
        switch (call[0]) {
            case 0: return x.ask(l, a, third % 4);
            case 1: return x.confirm(call[4]);
            case 2: return third == 3 ? x.leave(l, a) : x.told(l, a, third % 6);
            case 3: return x.way(l, a, third % 4);
            case 4: return x.moderator(l, a, is) ? 1 : 0;
            case 5: return x.ban(l, a, third == 5) ? 1 : 0;
            case 6: return x.setting(l, a < 5 ? a : a + 5, a == 4 ? third / 2.0 : third % 4 * 40.0);
            case 7: return x.post(l, a, 20 * third, call[4] % 11);
            case 8: return x.judge(a, call[4] * 3 + third % 3, third % 4);
            case 9: return x.bounce(l, a, is);
            case 10: return x.renew(l, a);
            default: return x.tick(third / 4);
        }
    }

    private static boolean isDeclared(Class<?> thrown, int call) {
        boolean argument = call != 1;
        boolean element = call != 0 && call != 5 && call != 6 && call != 7 && call != 11;
        boolean state = call == 0 || call == 4 || call == 7 || call == 9 || call == 10;
        boolean unsupported = call == 0 || call == 7 || call == 8;
        return argument && thrown == IllegalArgumentException.class
                || element && thrown == NoSuchElementException.class
                || state && thrown == IllegalStateException.class
                || unsupported && thrown == UnsupportedOperationException.class;
    }

    private static void countsAgree(String name, ListForge x) {
        Checks.same(name + " HELD and PASSED are POSTS", x.count(2) + x.count(3) <= x.count(1), true);
        for (int l = 0; l < 3; l++) {
            int there = 0;
            int live = 0;
            for (int a = 0; a < 12; a++) {
                String told = toldOf(x, l, a);
                there += told.isEmpty() ? 0 : 1;
                live += told.startsWith("1") ? 1 : 0;
            }
            Checks.same(name + " subscriptions", x.count(10 + l), there);
            Checks.same(name + " LIVE ones", x.count(20 + l), live);
            Checks.same(name + " an empty bundle has no size", x.count(40 + l) == 0, x.count(30 + l) == 0);
        }
    }

    private static String toldOf(ListForge x, int l, int a) {
        try {
            return x.told(l, a, 0) + " " + x.told(l, a, 1) + " " + x.told(l, a, 2) + " "
                    + x.told(l, a, 3) + " " + x.told(l, a, 4) + " " + x.score(l, a) + ";";
        } catch (NoSuchElementException e) {
            return "";
        }
    }

    private static String pictureOf(ListForge x) {
        StringBuilder all = new StringBuilder();
        for (int what = 0; what < 5; what++) {
            all.append(x.count(what)).append(' ');
        }
        for (int l = 0; l < 3; l++) {
            all.append(x.count(30 + l)).append(' ').append(x.count(40 + l)).append(':');
            for (int a = 0; a < 12; a++) {
                all.append(toldOf(x, l, a));
            }
        }
        return all.append(Checks.sentFrom(x, 0)).toString();
    }
}
