/** Promises 8 and 23 to 25: trains, what is to spare, routes. */
final class TrainTest {
    private static final String TEXT = "town ada 20 fast 5;town bel 30 slow 4;town cor 26;"
            + "train dawn ada bel 10 30;train noon bel cor 60 20;train dusk ada cor 90 5;train back cor ada 0 9;"
            + "limit 10;change 3;";

    public static void main(String[] args) {
        trains();
        spare();
        routes();
        routeStays();
        likeRoutes();
        edges();
        Check.finish("TrainTest");
    }

    private static void trains() {
        SundialTreaty x = Check.valley(TEXT);
        train(x, 0, 0, 1, 10, 30, 25, 55, 21);
        train(x, 1, 1, 2, 60, 20, 94, 114, 88);
        train(x, 2, 0, 2, 90, 5, 105, 110, 84);
        train(x, 3, 2, 0, 0, 9, 26, 35, 20);
        x.bend(0, -10);
        x.shade(0);
        train(x, 0, 0, 1, 10, 30, 35, 65, 31);
        train(x, 3, 2, 0, 0, 9, 26, 35, 10);
        Check.none("train(4, 0)", () -> x.train(4, 0));
        Check.none("train(-1, 0)", () -> x.train(-1, 0));
        Check.none("train(0, 7)", () -> x.train(0, 7));
        Check.none("train(0, -1)", () -> x.train(0, -1));
        Check.none("train(0, 0) of none", () -> new SundialTreaty().train(0, 0));
        SundialTreaty y = Check.valley("town a 0 fast 30;town b 60 slow 30;train k a b 0 1;");
        train(y, 0, 0, 1, 0, 1, -30, -29, -119);
    }

    static void train(SundialTreaty x, int k, int... want) {
        for (int what = 0; what < want.length; what++) {
            Check.eq("train(" + k + ", " + what + ")", x.train(k, what), want[what]);
        }
    }

    private static void spare() {
        SundialTreaty x = Check.valley(TEXT);
        Check.eq("spare(0, 1)", x.spare(0, 1), 36);
        Check.eq("spare(2, 3)", x.spare(2, 3), -87);
        Check.eq("spare(3, 0)", x.spare(3, 0), -13);
        Check.eq("spare(3, 2)", x.spare(3, 2), 67);
        Check.none("spare(0, 2)", () -> x.spare(0, 2));
        Check.none("spare(0, 0)", () -> x.spare(0, 0));
        Check.none("spare(0, 4)", () -> x.spare(0, 4));
        Check.none("spare(4, 0)", () -> x.spare(4, 0));
        Check.none("spare(-1, 0)", () -> x.spare(-1, 0));
        Check.none("spare(0, -1)", () -> x.spare(0, -1));
        x.shade(1);
        Check.eq("spare(0, 1) at a shaded dial", x.spare(0, 1), 36);
    }

    private static void routes() {
        SundialTreaty x = Check.valley(TEXT);
        route(x, 0, 2, 0, 110, 2);
        route(x, 0, 2, 105, 110, 2);
        Check.eq("route(0, 2, 106)", x.route(0, 2, 106), -1);
        route(x, 0, 1, 25, 55, 0);
        route(x, 1, 2, 94, 114, 1);
        Check.eq("route(2, 1, 0)", x.route(2, 1, 0), -1);
        x.bend(0, -10);
        // Now dusk is at cor at 120: dawn and noon are there at 114.
        route(x, 0, 2, 0, 114, 0, 1);
        route(x, 0, 2, 36, 120, 2);
        x.shade(0);
        route(x, 0, 2, 0, 114, 0, 1);
    }

    static void route(SundialTreaty x, int a, int b, int m, int want, int... trains) {
        String call = "route(" + a + ", " + b + ", " + m + ")";
        Check.eq(call, x.route(a, b, m), want);
        if (want == -1) {
            return;
        }
        for (int k = 0; k < trains.length; k++) {
            Check.eq("routeAt(" + k + ") of " + call, x.routeAt(k), trains[k]);
        }
        Check.eq("routeAt behind it of " + call, x.routeAt(trains.length), -1);
        Check.eq("routeAt(-1)", x.routeAt(-1), -1);
    }

    private static void routeStays() {
        SundialTreaty x = Check.valley(TEXT);
        Check.eq("routeAt(0) ahead of any", x.routeAt(0), -1);
        Check.eq("routeAt(8) ahead of any", x.routeAt(8), -1);
        x.bend(0, -10);
        route(x, 0, 2, 0, 114, 0, 1);
        int[][] wrong = {{0, 0, 0}, {3, 0, 0}, {0, 3, 0}, {-1, 0, 0}, {0, -1, 0}, {0, 1, -1}, {0, 1, 1000}, {2, 1, 0}, {0, 1, 999}};
        for (int[] w : wrong) {
            Check.eq("route that there is not", x.route(w[0], w[1], w[2]), -1);
            Check.eq("routeAt(0) stays", x.routeAt(0), 0);
            Check.eq("routeAt(1) stays", x.routeAt(1), 1);
            Check.eq("routeAt(2) stays", x.routeAt(2), -1);
        }
        Check.tape(x, "");
        x.valley();
        Check.eq("routeAt(1) stays by a new valley", x.routeAt(1), 1);
    }

    private static void likeRoutes() {
        // All come to c at 50: the fewest trains, then the least.
        route(Check.valley("town a 0;town b 0;town c 0;change 0;train k a b 0 10;train l b c 10 40;train m a c 20 30;train n a c 40 10;"),
                0, 2, 0, 50, 2);
        route(Check.valley("town a 0;town b 0;town c 0;change 0;train k b c 20 10;train l a b 10 5;train m a b 0 20;train n b c 25 5;"),
                0, 2, 0, 30, 1, 0);
        route(Check.valley("town a 0;town b 0;town c 0;change 1;train k b c 20 10;train l a b 10 15;train m a b 0 20;train n b c 25 5;"),
                0, 2, 0, 30, 2, 3);
        route(Check.valley("town a 0;town b 0;town c 0;change 5;train k b c 20 10;train l a b 10 15;train m a b 0 20;train n b c 25 5;"),
                0, 2, 0, 30, 2, 3);
        Check.eq("one minute too few to change", Check.valley("town a 0;town b 0;town c 0;change 6;train k b c 20 10;"
                + "train l a b 10 15;train m a b 0 20;train n b c 25 5;").route(0, 2, 0), -1);
    }

    private static void edges() {
        // Eight trains one behind the other, told backwards.
        SundialTreaty x = Check.valley("town a 0;town b 0;town c 0;town d 0;town e 0;town f 0;town g 0;change 0;"
                + "train q f g 70 10;train r e f 60 10;train s d e 50 10;train t c d 40 10;train u b c 30 10;"
                + "train v a b 20 10;train w b a 10 10;train x a b 0 10;");
        route(x, 0, 6, 0, 80, 5, 4, 3, 2, 1, 0);
        route(x, 0, 6, 1, 80, 5, 4, 3, 2, 1, 0);
        Check.eq("route(0, 6, 21)", x.route(0, 6, 21), -1);
        route(x, 1, 6, 10, 80, 4, 3, 2, 1, 0);
        // Trains that leave ahead of minute 0 can't be taken first.
        Check.eq("route ahead of 0", Check.valley("town a 0 fast 1;town b 0;train k a b 0 5;").route(0, 1, 0), -1);
        route(Check.valley("town a 0;town b 0;train k a b 0 5;"), 0, 1, 0, 5, 0);
        route(Check.valley("town a 60 slow 30;town b 0;train k a b 600 200;"), 0, 1, 690, 890, 0);
        Check.eq("route at 691", Check.valley("town a 60 slow 30;town b 0;train k a b 600 200;").route(0, 1, 691), -1);
    }
}
