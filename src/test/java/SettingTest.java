/** Promise 8: setting. */
public final class SettingTest {
    public static void main(String[] args) {
        firstValues();
        switches();
        sizes();
        best();
        barredSubjects();
        wrongNumbers();
        Checks.finish();
    }

    private static void firstValues() {
        for (int l = 0; l < 3; l++) {
            ListForge x = new ListForge();
            Checks.same("OPEN at first", x.setting(l, 0, 1), 0.0);
            Checks.same("WATCHED at first", x.setting(l, 1, 1), 0.0);
            Checks.same("GREATEST at first", x.setting(l, 2, 1), 100.0);
            Checks.same("FULL at first", x.setting(l, 3, 1), 200.0);
            Checks.same("BEST at first", x.setting(l, 4, 1), 3.0);
            for (int other = 0; other < 3; other++) {
                if (other != l) {
                    Checks.same("each list has its own", x.setting(other, 2, 1), 100.0);
                }
            }
        }
    }

    private static void switches() {
        ListForge x = new ListForge();
        for (int what = 0; what < 2; what++) {
            Checks.same("on by a small number", x.setting(0, what, -0.001), 0.0);
            Checks.same("off", x.setting(0, what, 0), 1.0);
            Checks.same("on by a great number", x.setting(0, what, 1e300), 0.0);
            Checks.same("off by -0.0", x.setting(0, what, -0.0), 1.0);
            Checks.same("it is off", x.setting(0, what, 0), 0.0);
        }
    }

    private static void sizes() {
        ListForge x = new ListForge();
        for (int what = 2; what < 4; what++) {
            int which = what;
            x.setting(0, what, 1);
            Checks.same("the least", x.setting(0, what, 1000), 1.0);
            Checks.same("the greatest", x.setting(0, what, 1000.999), 1000.0);
            Checks.same("cut to an int", x.setting(0, what, 7.9), 1000.0);
            Checks.same("kept as an int", x.setting(0, what, 5), 7.0);
            Checks.allThrow("wrong sizes", Checks.ARGUMENT, () -> x.setting(0, which, 0),
                    () -> x.setting(0, which, 0.999), () -> x.setting(0, which, 1001),
                    () -> x.setting(0, which, -1), () -> x.setting(0, which, 1e18),
                    () -> x.setting(0, which, -1e18), () -> x.setting(0, which, Double.NaN),
                    () -> x.setting(0, which, Double.POSITIVE_INFINITY));
            Checks.same("a refused one changes nothing", x.setting(0, what, 5), 5.0);
        }
    }

    private static void best() {
        ListForge x = new ListForge();
        x.setting(0, 4, 0.5);
        Checks.same("the least", x.setting(0, 4, 10), 0.5);
        Checks.same("the greatest", x.setting(0, 4, 2.625), 10.0);
        Checks.same("not cut", x.setting(0, 4, 3), 2.625);
        Checks.allThrow("wrong scores", Checks.ARGUMENT, () -> x.setting(0, 4, 0.49),
                () -> x.setting(0, 4, 10.001), () -> x.setting(0, 4, -1),
                () -> x.setting(0, 4, Double.NaN), () -> x.setting(0, 4, Double.POSITIVE_INFINITY),
                () -> x.setting(0, 4, Double.NEGATIVE_INFINITY));
        Checks.same("a refused one changes nothing", x.setting(0, 4, 1), 3.0);
    }

    private static void barredSubjects() {
        ListForge x = new ListForge();
        for (int s = 0; s < 10; s++) {
            Checks.same("not BARRED at first", x.setting(1, 10 + s, 2), 0.0);
        }
        Checks.same("BARRED", x.setting(1, 14, 0), 1.0);
        Checks.same("no more", x.setting(1, 14, 0), 0.0);
        Checks.same("its neighbour still", x.setting(1, 15, 1), 1.0);
        Checks.same("another list's are its own", x.setting(0, 15, 0), 0.0);
    }

    private static void wrongNumbers() {
        ListForge x = new ListForge();
        Checks.allThrow("wrong numbers", Checks.ARGUMENT, () -> x.setting(-1, 0, 1),
                () -> x.setting(3, 0, 1), () -> x.setting(0, -1, 1), () -> x.setting(0, 5, 1),
                () -> x.setting(0, 9, 1), () -> x.setting(0, 20, 1),
                () -> x.setting(0, Integer.MAX_VALUE, 1), () -> x.setting(0, Integer.MIN_VALUE, 1));
    }
}
