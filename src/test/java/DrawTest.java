/** Promises 34 and 35: days by draws, and how often they end in breach. */
final class DrawTest {
    private static final String TEXT = "town a 20 fast 5;town b 30 slow 4;town c 26;town d 0 fast 29;"
            + "term a 0 30 fast 5;term b 5 399 slow 4;term c 10 20 fast 0;term d 0 399 fast 30;frost 2;limit 1;";

    public static void main(String[] args) {
        wrong();
        drawnByHand();
        bentToday();
        frostAlwaysAndNever();
        toTheLastDay();
        odds();
        Check.finish("DrawTest");
    }

    private static void wrong() {
        SundialTreaty y = Check.valley(TEXT);
        Check.eq("drawn(0, 1)", y.drawn(0, 1), -1);
        Check.eq("drawn(61, 1)", y.drawn(61, 1), -1);
        Check.eq("drawn(-1, 1)", y.drawn(-1, 1), -1);
        Check.eq("odds(0, 0, 1)", y.odds(0, 0, 1), -1);
        Check.eq("odds(0, 31, 1)", y.odds(0, 31, 1), -1);
        Check.eq("odds(4, 1, 1)", y.odds(4, 1, 1), -1);
        Check.eq("odds(-1, 1, 1)", y.odds(-1, 1, 1), -1);
        Check.eq("the day stays", y.now(0), 0);
        Check.eq("undo() of none", y.undo(), -1);
        SundialTreaty z = new SundialTreaty();
        Check.eq("drawn(1, 1) without towns", z.drawn(1, 1), -1);
        Check.eq("odds(0, 1, 1) without towns", z.odds(0, 1, 1), -1);
        Check.eq("the day stays", z.now(0), 0);
    }

    private static void alike(String what, SundialTreaty y, SundialTreaty z) {
        Check.yes(what + ": all is as by hand", Check.land(y).equals(Check.land(z)));
    }

    private static void drawnByHand() {
        int[] seeds = {0, 1, 2, -1, 77, 123456789, Integer.MIN_VALUE, Integer.MAX_VALUE};
        for (int seed : seeds) {
            for (int n : new int[] {1, 2, 20, 60}) {
                SundialTreaty y = Check.valley(TEXT);
                SundialTreaty z = Check.valley(TEXT);
                Check.eq("drawn(" + n + ", " + seed + ")", y.drawn(n, seed), new DrawnByHand(seed).days(z, n));
                alike("drawn(" + n + ", " + seed + ")", y, z);
                Check.eq("undo()", y.undo(), 0);
                alike("undone", y, Check.valley(TEXT));
            }
        }
    }

    private static void bentToday() {
        for (int seed = 0; seed < 20; seed++) {
            SundialTreaty y = Check.valley(TEXT);
            SundialTreaty z = Check.valley(TEXT);
            for (int t = 0; t < 4; t++) {
                y.bend(t, 1);
                z.bend(t, 1);
            }
            y.drawn(1, seed);
            new DrawnByHand(seed).days(z, 1);
            alike("drawn(1, " + seed + ") when bent", y, z);
        }
    }

    private static void frostAlwaysAndNever() {
        SundialTreaty y = Check.valley("town a 0 fast 30;frost 12;");
        y.drawn(10, 5);
        Check.eq("it froze each day", y.now(5), 10);
        SundialTreaty z = Check.valley("town a 0 fast 30;frost 0;");
        z.drawn(60, 5);
        Check.eq("it never froze", z.now(5), 0);
    }

    private static void toTheLastDay() {
        SundialTreaty y = Check.valleyOn(395, TEXT);
        Check.eq("odds of the last days", y.odds(3, 30, 9) >= 0 ? 1 : 0, 1);
        Check.eq("drawn(60, 3)", y.drawn(60, 3), 5);
        Check.eq("the day", y.now(0), 400);
        Check.eq("drawn(60, 3) behind all days", y.drawn(60, 3), 0);
        Check.eq("drawn(0, 3) behind all days", y.drawn(0, 3), -1);
        Check.eq("odds behind all days", y.odds(3, 30, 9), 0);
        Check.eq("undo()", y.undo(), 7);
        Check.eq("the day", y.now(0), 395);
    }

    private static void odds() {
        for (int seed : new int[] {0, 5, -7, Integer.MAX_VALUE - 3}) {
            for (int t = 0; t < 4; t++) {
                SundialTreaty y = Check.valley(TEXT);
                y.shade(t);
                y.bend(1, -1);
                y.days(3);
                int want = 0;
                for (int i = 0; i < 30; i++) {
                    int had = y.town(t, 4);
                    y.drawn(20, seed + i);
                    want += y.town(t, 4) > had ? 1 : 0;
                    y.undo();
                }
                Check.eq("odds(" + t + ", 30, " + seed + ")", y.odds(t, 30, seed), want);
                Check.eq("all stays", y.now(0), 3);
                int had = y.town(t, 4);
                y.drawn(20, seed);
                int one = y.town(t, 4) > had ? 1 : 0;
                y.undo();
                Check.eq("odds(" + t + ", 1, " + seed + ")", y.odds(t, 1, seed), one);
            }
        }
    }
}
