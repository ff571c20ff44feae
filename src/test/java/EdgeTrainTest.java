/** TRAINS, SPARE and ROUTE, promises 8 and 23 to 25: a test for each sentence that names an edge. */
final class EdgeTrainTest {
    private static final int LEAST = Integer.MIN_VALUE;
    private static final int MOST = Integer.MAX_VALUE;
    private static final String THREE = "town a 0;town b 0;town c 0;change 5;train k a b 10 20;train l b c 35 10;";
    private static final int[] NO_TRAIN_OF_TWO = {-1, 2, 7, 8, LEAST, MOST};

    public static void main(String[] args) {
        Check.sentence("A TRAIN leaves, when the dial of its first TOWN shows LEAVES, and is at the other one TAKES minutes later",
                EdgeTrainTest::leaves);
        Check.sentence("6 what the other dial shows then. NoSuchElementException: no such ones.", EdgeTrainTest::noTrain);
        Check.sentence("to when the other one leaves from there, less 'change'", EdgeTrainTest::spare);
        Check.sentence("SPARE between two TRAINS (below 0: one is too late)", EdgeTrainTest::tooLate);
        Check.sentence("NoSuchElementException: the other one does not leave from where the first comes, no such ones.",
                EdgeTrainTest::noSpare);
        Check.sentence("TRAINS, each once at most", EdgeTrainTest::eachOnce);
        Check.sentence("the first leaving then at the soonest", EdgeTrainTest::thenAtTheSoonest);
        Check.sentence("between two as much as 'change' at least", EdgeTrainTest::change);
        Check.sentence("so that one is there soonest", EdgeTrainTest::soonest);
        Check.sentence("of like ones the fewest TRAINS", EdgeTrainTest::fewest);
        Check.sentence("then the first: TRAIN by TRAIN the least", EdgeTrainTest::first);
        Check.sentence("(Shaded dials go on by heart.)", EdgeTrainTest::shaded);
        Check.sentence("from minute m (0 to 999) on: the minute at which one is there", EdgeTrainTest::minutes);
        Check.sentence("NONE: there is none, alike, no such ones.", EdgeTrainTest::noRoute);
        Check.sentence("Its k-th TRAIN (from 0), by the latest route() that was not NONE", EdgeTrainTest::routeAt);
        Check.sentence("NONE: none such, or ahead of any.", EdgeTrainTest::noRouteAt);
        Check.finish("EdgeTrainTest");
    }

    private static void leaves() {
        SundialTreaty x = Check.valley("town a 0 fast 30;town b 60 slow 30;limit 10;train k a b 0 1;train l b a 600 200;");
        TrainTest.train(x, 0, 0, 1, 0, 1, -30, -29, -119);
        TrainTest.train(x, 1, 1, 0, 600, 200, 690, 890, 920);
        x.bend(0, -10);
        TrainTest.train(x, 0, 0, 1, 0, 1, -20, -19, -109);
        TrainTest.train(x, 1, 1, 0, 600, 200, 690, 890, 910);
        x.bend(1, 10);
        TrainTest.train(x, 1, 1, 0, 600, 200, 680, 880, 900);
        x.freeze();
        TrainTest.train(x, 0, 0, 1, 0, 1, -19, -18, -97);
    }

    private static void noTrain() {
        SundialTreaty x = Check.valley(THREE);
        int[] wrong = {-1, 7, 8, LEAST, MOST};
        for (int what : wrong) {
            Check.noneAndStays("train(0, " + what + ")", x, () -> x.train(0, what));
        }
        for (int k : NO_TRAIN_OF_TWO) {
            for (int w = 0; w < 7; w++) {
                int what = w;
                Check.none("train(" + k + ", " + what + ")", () -> x.train(k, what));
            }
        }
        Check.none("train(0, 0) of a new object", () -> new SundialTreaty().train(0, 0));
        Check.none("train(0, 0) of a valley without trains", () -> Check.valley(Texts.towns(7)).train(0, 0));
    }

    private static void spare() {
        SundialTreaty x = Check.valley(THREE);
        Check.eqAndStays("spare(0, 1)", x, () -> x.spare(0, 1), 0);
        Check.eq("change 0", Check.valley(THREE.replace("change 5", "change 0")).spare(0, 1), 5);
        Check.eq("change 30", Check.valley(THREE.replace("change 5", "change 30")).spare(0, 1), -25);
        x.bend(0, 1);
        Check.eq("a's dial is a minute fast", x.spare(0, 1), 1);
        x.bend(1, 2);
        Check.eq("b's is two minutes fast", x.spare(0, 1), -1);
        x.bend(2, 3);
        Check.eq("c's is nothing to it", x.spare(0, 1), -1);
    }

    private static void tooLate() {
        Check.eq("one minute too late", Check.valley(THREE.replace("l b c 35", "l b c 34")).spare(0, 1), -1);
        Check.eq("a minute to spare", Check.valley(THREE.replace("l b c 35", "l b c 36")).spare(0, 1), 1);
        String wide = "town a 60 slow 30;town b 0 fast 30;change 30;train k a b 600 200;train l b a 0 1;";
        Check.eq("as late as can be", Check.valley(wide).spare(0, 1), -950);
        Check.eq("from the one that comes first", Check.valley(wide).spare(1, 0), 690 - -29 - 30);
    }

    private static void noSpare() {
        SundialTreaty x = Check.valley(THREE);
        Check.noneAndStays("spare(1, 0)", x, () -> x.spare(1, 0));
        Check.noneAndStays("spare(0, 0)", x, () -> x.spare(0, 0));
        for (int k : NO_TRAIN_OF_TWO) {
            Check.noneAndStays("spare(0, " + k + ")", x, () -> x.spare(0, k));
            Check.noneAndStays("spare(" + k + ", 1)", x, () -> x.spare(k, 1));
            Check.noneAndStays("spare(" + k + ", " + k + ")", x, () -> x.spare(k, k));
        }
    }

    private static void eachOnce() {
        // All eight, one behind the other, to and fro.
        StringBuilder text = new StringBuilder("town a 0;town b 0;town c 0;change 0;");
        for (int k = 7; k >= 1; k--) {
            text.append("train k").append((char) ('a' + k)).append(k % 2 == 1 ? " a b " : " b a ").append(10 * k).append(" 10;");
        }
        text.append("train z b c 80 10;");
        TrainTest.route(Check.valley(text.toString()), 0, 2, 0, 90, 0, 7);
        // Only by all of them one comes to the last town in time.
        TrainTest.route(Check.valley("town a 0;town b 0;town c 0;town d 0;town e 0;town f 0;town g 0;change 0;train p f g 70 1;train q e f 60 1;"
                + "train r d e 50 1;train s c d 40 1;train t b c 30 1;train u a b 20 1;"), 0, 6, 0, 71, 5, 4, 3, 2, 1, 0);
        TrainTest.route(Check.valley("town a 0;town b 0;town c 0;town d 0;town e 0;town f 0;town g 0;change 0;train p f g 70 1;train q e f 60 1;"
                + "train r d e 50 1;train s c d 40 1;train t b c 30 1;train u a b 20 1;train v b a 10 1;train w c b 0 1;"),
                2, 0, 0, 11, 7, 6);
        // There is one train to b, none from it: it is not taken again.
        TrainTest.route(Check.valley("town a 0;town b 0;town c 0;train k a b 10 20;"), 0, 2, 0, -1);
    }

    private static void thenAtTheSoonest() {
        SundialTreaty x = Check.valley(THREE);
        TrainTest.route(x, 0, 1, 9, 30, 0);
        TrainTest.route(x, 0, 1, 10, 30, 0);
        TrainTest.route(x, 0, 1, 11, -1);
        // To change, minutes must be left; ahead of the first train, none.
        TrainTest.route(x, 1, 2, 35, 45, 1);
        TrainTest.route(x, 1, 2, 36, -1);
        TrainTest.route(x, 0, 2, 10, 45, 0, 1);
        TrainTest.route(x, 0, 2, 11, -1);
        x.bend(0, 3);
        TrainTest.route(x, 0, 1, 7, 27, 0);
        TrainTest.route(x, 0, 1, 8, -1);
    }

    private static void change() {
        for (int change = 0; change <= 30; change++) {
            SundialTreaty x = Check.valley("town a 0;town b 0;town c 0;change " + change + ";train k a b 10 20;train l b c 45 10;");
            TrainTest.route(x, 0, 2, 0, change <= 15 ? 55 : -1, 0, 1);
        }
        SundialTreaty y = Check.valley(THREE);
        y.bend(1, 1);
        TrainTest.route(y, 0, 2, 0, -1);
        SundialTreaty z = Check.valley(THREE);
        z.bend(1, -1);
        TrainTest.route(z, 0, 2, 0, 46, 0, 1);
    }

    private static void soonest() {
        // The first to leave is not the first to come; more trains are no matter if one is there sooner.
        TrainTest.route(Check.valley("town a 0;town b 0;town c 0;change 0;train k a c 0 100;train l a c 50 49;train m a b 60 10;train n b c 80 18;"),
                0, 2, 0, 98, 2, 3);
        TrainTest.route(Check.valley("town a 0;town b 0;town c 0;change 0;train k a c 0 100;train l a c 50 49;train m a b 60 10;train n b c 80 19;"),
                0, 2, 0, 99, 1);
    }

    private static void fewest() {
        String text = "town a 0;town b 0;town c 0;change 0;train k a b 0 10;train l b c 20 30;train m a c 40 10;";
        TrainTest.route(Check.valley(text), 0, 2, 0, 50, 2);
        TrainTest.route(Check.valley("town a 0;town b 0;town c 0;town d 0;change 0;train k a b 0 10;train l b c 20 10;train m c d 40 10;"
                + "train n a c 5 6;"), 0, 3, 0, 50, 3, 2);
    }

    private static void first() {
        String pair = "town a 0;town b 0;change 0;";
        TrainTest.route(Check.valley(pair + "train k a b 40 10;train l a b 30 20;train m a b 0 50;"), 0, 1, 0, 50, 0);
        TrainTest.route(Check.valley(pair + "train k a b 40 11;train l a b 30 20;train m a b 0 50;"), 0, 1, 0, 50, 1);
        TrainTest.route(Check.valley(pair + "train k a b 40 10;train l a b 30 20;train m a b 0 50;"), 0, 1, 40, 50, 0);
        String three = "town a 0;town b 0;town c 0;change 0;";
        // By 1 and 0, 1 and 3, 2 and 0, 2 and 3 one is there at 50.
        TrainTest.route(Check.valley(three + "train k b c 20 30;train l a b 0 10;train m a b 0 5;train n b c 30 20;"), 0, 2, 0, 50, 1, 0);
        // By 0 and 3, 1 and 2: the first train is the less, though the second is not.
        TrainTest.route(Check.valley("town a 0;town b 0;town c 0;town d 0;change 0;train k a b 0 10;train l a c 0 10;train m c d 20 30;"
                + "train n b d 20 30;"), 0, 3, 0, 50, 0, 3);
    }

    private static void shaded() {
        SundialTreaty x = Check.valley(THREE);
        for (int t = 0; t < 3; t++) {
            x.shade(t);
        }
        TrainTest.train(x, 0, 0, 1, 10, 20, 10, 30, 30);
        Check.eq("spare(0, 1)", x.spare(0, 1), 0);
        TrainTest.route(x, 0, 2, 0, 45, 0, 1);
        x.bend(0, 1);
        TrainTest.train(x, 0, 0, 1, 10, 20, 9, 29, 29);
    }

    private static void minutes() {
        SundialTreaty x = Check.valley("town a 60 slow 30;town b 0 fast 30;train k a b 600 200;train l b a 30 1;");
        TrainTest.route(x, 0, 1, 0, 890, 0);
        TrainTest.route(x, 0, 1, 690, 890, 0);
        Check.eqAndStays("route(0, 1, 691)", x, () -> x.route(0, 1, 691), -1);
        Check.eqAndStays("route(0, 1, 999)", x, () -> x.route(0, 1, 999), -1);
        int[] wrong = {-1, 1000, 1001, LEAST, MOST};
        for (int m : wrong) {
            Check.eqAndStays("route(0, 1, " + m + ")", x, () -> x.route(0, 1, m), -1);
        }
        TrainTest.route(x, 1, 0, 0, 1, 1);
        TrainTest.route(x, 1, 0, 1, -1);
        // A train that leaves ahead of minute 0 can't be caught.
        TrainTest.route(Check.valley("town a 0 fast 1;town b 0;train k a b 0 9;"), 0, 1, 0, -1);
        TrainTest.route(Check.valley("town a 0 fast 1;town b 0;train k a b 1 9;"), 0, 1, 0, 9, 0);
    }

    private static void noRoute() {
        SundialTreaty x = Check.valley(THREE);
        TrainTest.route(x, 0, 2, 0, 45, 0, 1);
        Check.eqAndStays("no train goes there", x, () -> x.route(2, 0, 0), -1);
        for (int t = 0; t < 3; t++) {
            int same = t;
            Check.eqAndStays("alike", x, () -> x.route(same, same, 0), -1);
        }
        int[] wrong = {-1, 3, 6, 7, LEAST, MOST};
        for (int t : wrong) {
            Check.eqAndStays("route(" + t + ", 1, 0)", x, () -> x.route(t, 1, 0), -1);
            Check.eqAndStays("route(0, " + t + ", 0)", x, () -> x.route(0, t, 0), -1);
        }
        Check.eq("route(0, 1, 0) of a new object", new SundialTreaty().route(0, 1, 0), -1);
        Check.eq("route(0, 1, 0) without trains", Check.valley(Texts.towns(2)).route(0, 1, 0), -1);
    }

    private static void routeAt() {
        SundialTreaty x = Check.valley(THREE);
        TrainTest.route(x, 0, 2, 0, 45, 0, 1);
        x.route(2, 0, 0);
        x.route(0, 0, 0);
        x.route(0, 2, 11);
        x.days(3);
        x.bend(0, -3);
        Check.eq("routeAt(0) stays", x.routeAt(0), 0);
        Check.eq("routeAt(1) stays", x.routeAt(1), 1);
        TrainTest.route(x, 1, 2, 0, 45, 1);
        Check.eq("routeAt(1) of a shorter one", x.routeAt(1), -1);
    }

    private static void noRouteAt() {
        SundialTreaty x = Check.valley(THREE);
        int[] any = {0, 1, -1, 7, 8, LEAST, MOST};
        for (int k : any) {
            Check.eq("routeAt(" + k + ") ahead of any", x.routeAt(k), -1);
        }
        x.route(2, 0, 0);
        Check.eq("routeAt(0) behind one that is NONE", x.routeAt(0), -1);
        TrainTest.route(x, 0, 2, 0, 45, 0, 1);
        int[] wrong = {-1, 2, 7, 8, LEAST, MOST};
        for (int k : wrong) {
            Check.eq("routeAt(" + k + ")", x.routeAt(k), -1);
        }
    }
}
