import java.util.NoSuchElementException;
import java.util.function.Consumer;
import java.util.function.ObjIntConsumer;
import java.util.function.Supplier;

/** Looks at the edges of calls, each on objects of its own, so that no look disturbs another. */
final class Edges {
    private Edges() {
    }

    /** Every number from first to last is taken; those beyond are refused, on an empty object too. */
    static void range(String what, int first, int last, Supplier<ListForge> made,
            ObjIntConsumer<ListForge> call) {
        for (int n = first; n <= last; n++) {
            int number = n;
            ListForge x = made.get();
            Checks.thrown(what + " of " + n, null, () -> call.accept(x, number));
        }
        int[] beyond = {first - 1, last + 1, Integer.MIN_VALUE, Integer.MAX_VALUE};
        for (int number : beyond) {
            String name = what + " of " + number;
            refused(name, Checks.ARGUMENT, made, x -> call.accept(x, number));
            refused(name + ", empty", Checks.ARGUMENT, ListForge::new, x -> call.accept(x, number));
        }
    }

    /** The call throws, and the object answers from then on as one that was never asked. */
    static void refused(String what, Class<?> due, Supplier<ListForge> made, Consumer<ListForge> call) {
        ListForge x = made.get();
        Checks.thrown(what, due, () -> call.accept(x));
        Checks.same(what + " changes nothing", futureOf(x), futureOf(made.get()));
    }

    /**
     * What an object answers from now on. The looking itself changes the object, so that it is of
     * no use afterwards, and it is sparing, so that no object comes to more than 512 calls.
     */
    private static String futureOf(ListForge x) {
        StringBuilder all = new StringBuilder();
        addCounts(x, all);
        addLastSent(x, all);
        for (int l = 0; l < Worlds.LISTS; l++) {
            for (int a = 0; a < Worlds.ADDRESSES; a++) {
                addPlace(x, l, a, all);
            }
            addSettings(x, l, all);
        }
        x.ban(0, 0, true);
        x.ban(0, 0, false);
        all.append("; next code ").append(x.ask(0, 0, 0));
        all.append("; next post ").append(x.count(1) == 40 ? -1 : x.post(0, 0, 1, 0));
        x.tick(3);
        addCounts(x, all);
        return all.toString();
    }

    private static void addCounts(ListForge x, StringBuilder all) {
        for (int what = 0; what < 5; what++) {
            all.append(x.count(what)).append(' ');
        }
        for (int l = 0; l < Worlds.LISTS; l++) {
            for (int tens = 10; tens <= 40; tens += 10) {
                all.append(x.count(tens + l)).append(' ');
            }
        }
    }

    private static void addLastSent(ListForge x, StringBuilder all) {
        int kept = Math.min(x.count(4), 60);
        for (int what = 0; what < 4 && kept > 0; what++) {
            all.append(x.sent(kept - 1, what)).append(' ');
        }
    }

    /** A bounce shows whether one counted that day, a ban whether there was one. */
    private static void addPlace(ListForge x, int l, int a, StringBuilder all) {
        all.append("; ").append(l).append(' ').append(a).append(':');
        try {
            for (int what = 0; what < 5; what++) {
                all.append(' ').append(x.told(l, a, what));
            }
            all.append(' ').append(x.told(l, a, 0) == 1 ? x.bounce(l, a, true) : x.score(l, a));
        } catch (NoSuchElementException e) {
            all.append(" nobody, banned ").append(x.ban(l, a, false));
        }
    }

    private static void addSettings(ListForge x, int l, StringBuilder all) {
        for (int what = 0; what < 20; what++) {
            if (what < 5 || what >= 10) {
                all.append(' ').append(x.setting(l, what, 1));
            }
        }
    }
}
