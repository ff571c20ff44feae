/** Promises 17 to 20, 28 and 29: how long noon is, the one noon, even errors, coming nearer. */
final class NoonTest {
    public static void main(String[] args) {
        longAndOne();
        even();
        evenStays();
        nearer();
        nearerStays();
        Check.finish("NoonTest");
    }

    private static void longAndOne() {
        SundialTreaty x = Check.valley("town a 60 slow 30;town b 0 fast 30;town c 10;town d 20;");
        Check.eq("noonLong()", x.noonLong(), 120);
        Check.eq("oneNoon() of -30, 10, 20, 90", x.oneNoon(), 10);
        x.shade(0);
        Check.eq("noonLong()", x.noonLong(), 50);
        Check.eq("oneNoon() of -30, 10, 20", x.oneNoon(), 10);
        x.shade(2);
        Check.eq("oneNoon() of -30, 20", x.oneNoon(), -30);
        x.shade(1);
        Check.eq("noonLong() of one", x.noonLong(), 0);
        Check.eq("oneNoon() of one", x.oneNoon(), 20);
        x.shade(3);
        Check.none("noonLong() of none", x::noonLong);
        Check.none("oneNoon() of none", x::oneNoon);
        SundialTreaty y = new SundialTreaty();
        Check.none("noonLong() without towns", y::noonLong);
        Check.none("oneNoon() without towns", y::oneNoon);
        SundialTreaty z = Check.valley("town a 5;town b 5;town c 5;town d 9;");
        Check.eq("oneNoon() of like ones", z.oneNoon(), 5);
        Check.eq("noonLong() of like ones", z.noonLong(), 4);
    }

    private static void even() {
        even("town a 0 fast 5;town b 0;town c 0;", 5, 0, 0, -5);
        even("town a 0 fast 5;town b 0;town c 0;term c 0 0 fast 0;", 5, 0, -5, 0);
        even("town a 0 fast 25;town b 0 fast 25;town c 0 slow 10;", 40, 0, -20, -20);
        even("town a 0 slow 30;town b 0 slow 30;town c 0 fast 29;", 31, 0, 30, 1);
        even("town a 0 fast 30;town b 0 fast 30;town c 0 fast 30;term a 0 0 fast 1;", 90, 0, -30, -60);
        even("town a 0 fast 30;town b 0 fast 30;town c 0;term a 0 0 fast 1;term b 0 0 fast 1;", -1);
        even("town a 0 fast 30;town b 0;term a 0 0 fast 1;", 30, 0, -30);
        even("town a 0 fast 30;town b 0 slow 1;term a 0 0 fast 1;", 29, 0, -29);
        even("town a 0 fast 30;town b 0 fast 1;term a 0 0 fast 1;", 31, 0, -31);
        even("town a 0 slow 7;town b 0 fast 7;", 0, 0, 0);
        even("town a 0;term a 0 9 fast 2;", 0, 0);
        even("town a 0 fast 1;term a 0 9 fast 2;", -1);
        // A shaded town is bent like the others.
        SundialTreaty x = Check.valley("town a 0 fast 3;town b 0;");
        x.shade(1);
        x.bend(1, 1);
        Check.eq("even() with a shaded one", x.even(), 4);
        Check.eq("evenAt(1)", x.evenAt(1), -4);
        Check.eq("all stays as it is", x.now(1), 4);
    }

    private static void even(String text, int want, int... by) {
        SundialTreaty x = Check.valley(text);
        Check.eq("even() of " + text, x.even(), want);
        for (int t = 0; t < by.length; t++) {
            Check.eq("evenAt(" + t + ") of " + text, x.evenAt(t), by[t]);
        }
        Check.none("evenAt behind them", () -> x.evenAt(by.length));
        Check.none("evenAt(-1)", () -> x.evenAt(-1));
    }

    private static void evenStays() {
        SundialTreaty x = Check.valley("town a 0 fast 3;term a 1 5 fast 0;");
        Check.none("evenAt(0) ahead of any", () -> x.evenAt(0));
        Check.eq("even()", x.even(), 3);
        x.days(1);
        Check.eq("even() that can't be", x.even(), -1);
        Check.eq("evenAt(0) stays", x.evenAt(0), -3);
        x.image(0);
        x.restore(0);
        Check.eq("evenAt(0) stays by restore", x.evenAt(0), -3);
        SundialTreaty y = new SundialTreaty();
        Check.eq("even() without towns", y.even(), 0);
        Check.none("evenAt(0) without towns", () -> y.evenAt(0));
    }

    private static void nearer() {
        nearer("town a 20 fast 5;town b 30 slow 4;town c 26;term a 0 9 fast 5;term b 0 399 slow 4;", 12, 5, -4, 11);
        nearer("", 1);
        nearer("town a 5;", 1, 0);
        nearer("town a 5;town b 5;", 1, 0, 0);
        nearer("town a 10;town b 11;", 2, 0 - 1, 0);
        nearer("town a 10;town b 13;", 3, -2, 1);
        nearer("town a 0;town b 60;term a 0 0 fast 0;", 31, 0, 30);
        nearer("town a 0;town b 60 slow 30;term a 0 0 fast 0;", 60, 0, 30);
        nearer("town a 0;town b 60 slow 29;term a 0 0 fast 0;", 60, 0, 30);
        nearer("town a 0;town b 60 slow 28;term a 0 0 fast 0;", 59, 0, 30);
        nearer("town a 0;town b 9;term a 0 0 fast 0;term b 0 0 fast 0;", 1, 0, 0);
        SundialTreaty x = Check.valley("town a 0;town b 9;town c 4;");
        x.shade(0);
        x.bend(2, 1);
        Check.eq("nearer() with a shaded one", x.nearer(), 4);
        Check.eq("nearerAt(0)", x.nearerAt(0), 0);
        Check.eq("nearerAt(1)", x.nearerAt(1), 3);
        Check.eq("nearerAt(2)", x.nearerAt(2), -2);
        Check.eq("all stays as it is", x.now(1), 1);
        x.shade(1);
        Check.eq("nearer() of one alone", x.nearer(), 1);
        Check.eq("nearerAt(2)", x.nearerAt(2), 1);
    }

    private static void nearer(String text, int want, int... bends) {
        SundialTreaty x = Check.valley(text);
        Check.none("nearerAt(0) ahead of any", () -> x.nearerAt(0));
        Check.eq("nearer() of " + text, x.nearer(), want);
        for (int t = 0; t < bends.length; t++) {
            Check.eq("nearerAt(" + t + ") of " + text, x.nearerAt(t), bends[t]);
        }
        Check.none("nearerAt behind them", () -> x.nearerAt(bends.length));
        Check.none("nearerAt(-1)", () -> x.nearerAt(-1));
    }

    private static void nearerStays() {
        SundialTreaty x = Check.valley("town a 0;town b 2;");
        x.nearer();
        int first = x.nearerAt(0);
        x.bend(0, 3);
        x.days(1);
        Check.eq("nearerAt(0) stays", x.nearerAt(0), first);
    }
}
