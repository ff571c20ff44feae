/** Promises 6, 7, 9 and 10: towns, dues, what dials show, how all is now. */
final class TownTest {
    private static final String TEXT = "town ada 20 fast 5;town bel 30 slow 4;town cor 26;"
            + "term ada 3 9 fast 5;term ada 5 20 slow 2;term bel 0 399 slow 4;limit 10;";

    public static void main(String[] args) {
        towns();
        dues();
        shows();
        now();
        Check.finish("TownTest");
    }

    private static void towns() {
        SundialTreaty x = Check.valley(TEXT);
        town(x, 0, 20, 5, 0, 0, 0, 0, 15, 0, 0);
        town(x, 1, 30, -4, 0, 0, 0, 0, 34, 0, 1);
        town(x, 2, 26, 0, 0, 0, 0, 0, 26, 0, 0);
        x.bend(1, 1);
        x.shade(2);
        town(x, 1, 30, -3, 0, 1, 0, 0, 33, 1, 1);
        town(x, 2, 26, 0, 1, 0, 0, 0, 26, 0, 0);
        x.days(2);
        town(x, 1, 30, -3, 0, 1, 2, 0, 33, 0, 1);
        x.freeze();
        town(x, 0, 20, 4, 0, 0, 0, 1, 16, 0, 0);
        town(x, 1, 30, -2, 0, 1, 2, 1, 32, 0, 1);
        town(x, 2, 26, 0, 1, 0, 0, 0, 26, 0, 0);
        x.shade(1);
        x.days(1);
        town(x, 0, 20, 4, 0, 1, 0, 1, 16, 0, 1);
        // In breach, but in the shade: it is not counted.
        town(x, 1, 30, -2, 1, 1, 2, 1, 32, 0, 1);
        Check.none("town(3, 0)", () -> x.town(3, 0));
        Check.none("town(-1, 0)", () -> x.town(-1, 0));
        Check.none("town(0, 9)", () -> x.town(0, 9));
        Check.none("town(0, -1)", () -> x.town(0, -1));
        Check.none("town(7, 0)", () -> x.town(7, 0));
        Check.none("town(least, 0)", () -> x.town(Integer.MIN_VALUE, 0));
        Check.toDay(x, 400);
        Check.eq("no due then", x.town(1, 8), 0);
        Check.eq("no breach then", x.town(1, 3), 0);
    }

    private static void town(SundialTreaty x, int t, int... want) {
        for (int what = 0; what < want.length; what++) {
            Check.eq("town(" + t + ", " + what + ") on day " + x.now(0), x.town(t, what), want[what]);
        }
    }

    private static void dues() {
        SundialTreaty x = Check.valley(TEXT);
        Check.none("due(0, 2)", () -> x.due(0, 2));
        Check.eq("due(0, 3)", x.due(0, 3), 5);
        Check.eq("due(0, 9)", x.due(0, 9), 5);
        Check.eq("due(0, 10)", x.due(0, 10), -2);
        Check.eq("due(0, 20)", x.due(0, 20), -2);
        Check.none("due(0, 21)", () -> x.due(0, 21));
        Check.eq("due(1, 0)", x.due(1, 0), -4);
        Check.eq("due(1, 399)", x.due(1, 399), -4);
        Check.none("due(1, 400)", () -> x.due(1, 400));
        Check.none("due(1, -1)", () -> x.due(1, -1));
        Check.none("due(2, 0)", () -> x.due(2, 0));
        Check.none("due(3, 0)", () -> x.due(3, 0));
        Check.none("due(-1, 0)", () -> x.due(-1, 0));
    }

    private static void shows() {
        SundialTreaty x = Check.valley(TEXT);
        Check.eq("shows(0, 0)", x.shows(0, 0), -15);
        Check.eq("shows(1, 999)", x.shows(1, 999), 965);
        Check.eq("shows(2, 26)", x.shows(2, 26), 0);
        Check.none("shows(0, 1000)", () -> x.shows(0, 1000));
        Check.none("shows(0, -1)", () -> x.shows(0, -1));
        Check.none("shows(3, 0)", () -> x.shows(3, 0));
        Check.none("shows(-1, 0)", () -> x.shows(-1, 0));
        x.shade(0);
        Check.none("shows of a shaded one", () -> x.shows(0, 0));
        x.clear(0);
        x.bend(0, 10);
        Check.eq("shows(0, 0) bent", x.shows(0, 0), -5);
    }

    private static void now() {
        SundialTreaty x = Check.valley(TEXT);
        state(x, 0, 1, 0, 0, 0, 0, 9);
        x.bend(1, 10);
        x.shade(0);
        x.shade(2);
        state(x, 0, 11, 2, 5, 0, 0, 11);
        x.days(4);
        state(x, 4, 11, 2, 5, 4, 0, 11);
        x.freeze();
        x.freeze();
        state(x, 4, 7, 3, 5, 4, 4, 7);
        Check.none("now(7)", () -> x.now(7));
        Check.none("now(-1)", () -> x.now(-1));
    }

    private static void state(SundialTreaty x, int... want) {
        for (int what = 0; what < want.length; what++) {
            Check.eq("now(" + what + ") on day " + want[0], x.now(what), want[what]);
        }
    }
}
