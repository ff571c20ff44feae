/** The section marked 2 and promises 6, 7 and 9 to 16: a test for each sentence that names an edge. */
final class EdgeDialTest {
    private static final int LEAST = Integer.MIN_VALUE;
    private static final int MOST = Integer.MAX_VALUE;
    private static final int[] NO_TOWN_OF_TWO = {-1, 2, 3, 6, 7, 8, LEAST, MOST};

    public static void main(String[] args) {
        Check.sentence("a BEND (so many minutes fast; slow: below 0; 30 at most either way)", EdgeDialTest::thirtyAtMost);
        Check.sentence("its dial SHOWS m less NOON and BEND, minutes behind its noon (below 0: ahead of it)", EdgeDialTest::shows);
        Check.sentence("its NOON BY DIAL is NOON less BEND", EdgeDialTest::noonByDial);
        Check.sentence("the BEND of the first of its terms that holds then (FROM to TO)", EdgeDialTest::firstTerm);
        Check.sentence("none: it has no DUE", EdgeDialTest::noDue);
        Check.sentence("In BREACH: it has a DUE, and its BEND is another one.", EdgeDialTest::inBreach);
        Check.sentence("why not, the least", EdgeDialTest::leastReason);
        Check.sentence("1 it was bent on this DAY already", EdgeDialTest::bentAlready);
        Check.sentence("2 m is above 'limit' either way", EdgeDialTest::aboveLimit);
        Check.sentence("3 it would be above 30 either way", EdgeDialTest::aboveThirty);
        Check.sentence("To SHADE it: 1 it is shaded.", EdgeDialTest::shadedAlready);
        Check.sentence("To CLEAR it: 1 it is not.", EdgeDialTest::notShaded);
        Check.sentence("each BEND that is not 0 is a minute nearer to 0 (it has SPRUNG once more)", EdgeDialTest::freeze);
        Check.sentence("A DAY (0 to 399; 400: all are over)", EdgeDialTest::allOver);
        Check.sentence("each TOWN that is in BREACH and not shaded has a BREACH more", EdgeDialTest::breachMore);
        Check.sentence("It is the next DAY.", EdgeDialTest::nextDay);
        Check.sentence("Of a TOWN: 0 NOON, .. 8 whether it has a DUE (1, 0). NoSuchElementException: no such ones.", EdgeDialTest::town);
        Check.sentence("DUE of a TOWN on a DAY (0 to 399). NoSuchElementException: no such ones, it has none.", EdgeDialTest::due);
        Check.sentence("What a dial SHOWS at minute m (0 to 999). NoSuchElementException: it is shaded, no such ones.",
                EdgeDialTest::showsNone);
        Check.sentence("3 shaded ones, as bits", EdgeDialTest::bits);
        Check.sentence("6 by how many minutes all are off in all (either way)", EdgeDialTest::offInAll);
        Check.sentence("NoSuchElementException: another what.", EdgeDialTest::otherNow);
        Check.sentence("A dial is BENT by m (-10 to 10, not 0): 0, or why not; NONE: no such ones.", EdgeDialTest::bend);
        Check.sentence("A dial is SHADED: 0, or why not; NONE: no such one.", EdgeDialTest::shade);
        Check.sentence("It is CLEARED: 0, or why not; NONE: no such one.", EdgeDialTest::clear);
        Check.sentence("It FREEZES: how many dials spring.", EdgeDialTest::springs);
        Check.sentence("n (1 to 60) DAYS go by: how many did; NONE: not as told.", EdgeDialTest::days);
        Check.sentence("The latest of bend(), shade(), clear() that was done", EdgeDialTest::undoDone);
        Check.sentence("freeze(), days() above 0, drawn() above 0", EdgeDialTest::undoAboveNone);
        Check.sentence("a BOOK that was lived is undone", EdgeDialTest::undoBook);
        Check.sentence("how many more can be (8 at most are kept)", EdgeDialTest::undoEight);
        Check.sentence("NONE: none is.", EdgeDialTest::undoNone);
        Check.sentence("A call that throws changes nothing.", EdgeDialTest::throwsChangeNothing);
        Check.finish("EdgeDialTest");
    }

    private static SundialTreaty two() {
        return Check.valley("town a 20 fast 28;town b 30 slow 28;term a 1 2 fast 28;term b 0 399 slow 28;limit 4;");
    }

    /** However it is bent, by a call, a book or a draw, it comes to 30 and not beyond. */
    private static void thirtyAtMost() {
        SundialTreaty x = Check.valley("town a 0 fast 29;town b 0 slow 29;limit 1;frost 0;");
        for (int day = 0; day < 4; day++) {
            Check.eq("bend on day " + day, x.bend(0, 1), day == 0 ? 0 : 3);
            Check.eq("book on day " + day, Texts.BOOK.read(x, "bend b slow 1;"), day == 0 ? -1 : 0);
            Check.eq("fast on day " + day, x.town(0, 1), 30);
            Check.eq("slow on day " + day, x.town(1, 1), -30);
            x.days(1);
        }
        for (int i = 0; i < 6; i++) {
            x.drawn(60, i);
            Check.yes("within 30 by draws", Math.abs(x.town(0, 1)) <= 30 && Math.abs(x.town(1, 1)) <= 30);
        }
    }

    private static void shows() {
        SundialTreaty x = Check.valley("town a 60 slow 30;town b 0 fast 30;town c 10;");
        Check.eq("the slowest at 0", x.shows(0, 0), -90);
        Check.eq("the slowest at 89", x.shows(0, 89), -1);
        Check.eq("the slowest at its noon", x.shows(0, 90), 0);
        Check.eq("the slowest at 91", x.shows(0, 91), 1);
        Check.eq("the slowest at 999", x.shows(0, 999), 909);
        Check.eq("the fastest at 0", x.shows(1, 0), 30);
        Check.eq("the fastest at 999", x.shows(1, 999), 1029);
        Check.eq("one that is right", x.shows(2, 10), 0);
    }

    private static void noonByDial() {
        SundialTreaty x = Check.valley("town a 60 slow 30;town b 0 fast 30;town c 10;");
        Check.eq("the slowest", x.town(0, 6), 90);
        Check.eq("the fastest", x.town(1, 6), -30);
        Check.eq("one that is right", x.town(2, 6), 10);
        x.bend(2, 1);
        Check.eq("one that is bent fast", x.town(2, 6), 9);
    }

    private static void firstTerm() {
        SundialTreaty x = Check.valley("town a 0;town b 0;term b 0 399 fast 9;term a 5 7 fast 1;term a 6 9 slow 2;"
                + "term a 0 5 fast 3;term a 399 399 fast 4;term a 9 399 fast 5;");
        int[] days = {0, 4, 5, 6, 7, 8, 9, 10, 398, 399};
        int[] dues = {3, 3, 1, 1, 1, -2, -2, 5, 5, 4};
        for (int i = 0; i < days.length; i++) {
            Check.eq("due(0, " + days[i] + ")", x.due(0, days[i]), dues[i]);
            Check.eq("due(1, " + days[i] + ")", x.due(1, days[i]), 9);
        }
    }

    private static void noDue() {
        SundialTreaty x = Check.valley("town a 0;town b 0;term a 5 7 fast 0;term a 9 9 fast 0;");
        for (int day = 0; day < 12; day++) {
            int on = day;
            boolean has = day >= 5 && day <= 7 || day == 9;
            Check.eq("town(0, 8) on day " + day, x.town(0, 8), has ? 1 : 0);
            Check.eq("town(1, 8) on day " + day, x.town(1, 8), 0);
            if (has) {
                Check.eq("due(0, " + day + ")", x.due(0, day), 0);
            } else {
                Check.none("due(0, " + day + ")", () -> x.due(0, on));
            }
            Check.none("due(1, " + day + ")", () -> x.due(1, on));
            x.days(1);
        }
    }

    private static void inBreach() {
        SundialTreaty x = Check.valley("town a 0 fast 3;town b 0 slow 3;town c 0 fast 3;town d 0;term a 0 1 fast 3;term b 0 1 fast 3;"
                + "term d 0 399 slow 0;");
        Check.eq("now(2): b is slow, not fast", x.now(2), 2);
        Check.eq("c has no due", x.town(2, 3), 0);
        x.bend(0, -1);
        Check.eq("now(2): a is off by a minute", x.now(2), 3);
        Check.eq("a shaded one is in breach, too", x.shade(0) + x.now(2), 3);
        x.bend(3, 1);
        Check.eq("now(2): d must be right", x.now(2), 11);
        x.days(2);
        Check.eq("now(2) behind the terms", x.now(2), 8);
    }

    private static void leastReason() {
        SundialTreaty x = two();
        // By 5: above the limit and above 30.
        Check.eq("2 ahead of 3, fast", x.bend(0, 5), 2);
        Check.eq("2 ahead of 3, slow", x.bend(1, -5), 2);
        x.bend(0, 1);
        x.bend(1, 1);
        Check.eq("1 ahead of 2 and 3, fast", x.bend(0, 5), 1);
        Check.eq("1 ahead of 2, slow", x.bend(1, -10), 1);
        Check.eq("1 ahead of 3, fast", x.bend(0, 4), 1);
        Check.eq("1 alone", x.bend(1, 1), 1);
    }

    private static void bentAlready() {
        SundialTreaty x = two();
        Check.eq("bend", x.bend(0, -1), 0);
        Check.eq("back again", x.bend(0, 1), 1);
        Check.eq("another dial", x.bend(1, 1), 0);
        Check.eq("bent on this day", x.town(0, 7) + x.town(1, 7), 2);
        x.days(1);
        Check.eq("bent on this day, a day later", x.town(0, 7) + x.town(1, 7), 0);
        Check.eq("bend a day later", x.bend(0, -1), 0);
        x.undo();
        Check.eq("an undone bend is none", x.bend(0, -2), 0);
        Check.eq("frost is none", Check.valley("town a 0 fast 9;").freeze(), 1);
        SundialTreaty y = Check.valley("town a 0 fast 9;");
        y.freeze();
        Check.eq("bend behind frost", y.bend(0, 1), 0);
        SundialTreaty z = two();
        z.bend(0, 9);
        z.bend(0, 3);
        Check.eq("one that could not be is none", z.bend(0, 2), 0);
    }

    private static void aboveLimit() {
        for (int limit = 1; limit <= 10; limit++) {
            for (int m = -10; m <= 10; m++) {
                if (m != 0) {
                    SundialTreaty x = Check.valley("town a 0;limit " + limit + ";");
                    boolean may = m <= limit && -m <= limit;
                    Check.eq("bend by " + m + " with limit " + limit, x.bend(0, m), may ? 0 : 2);
                    Check.eq("the bend then", x.town(0, 1), may ? m : 0);
                }
            }
        }
    }

    private static void aboveThirty() {
        for (int bend = 1; bend <= 30; bend++) {
            for (int m = 1; m <= 10; m++) {
                boolean may = bend + m <= 30;
                SundialTreaty x = Check.valley("town a 0 fast " + bend + ";town b 0 slow " + bend + ";limit 10;");
                Check.eq(bend + " fast, by " + m, x.bend(0, m), may ? 0 : 3);
                Check.eq(bend + " slow, by " + -m, x.bend(1, -m), may ? 0 : 3);
                Check.eq("fast then", x.town(0, 1), may ? bend + m : bend);
                Check.eq("slow then", x.town(1, 1), may ? -bend - m : -bend);
                SundialTreaty y = Check.valley("town a 0 fast " + bend + ";town b 0 slow " + bend + ";limit 10;");
                Check.eq("towards 0 it always may", y.bend(0, -m) + y.bend(1, m), 0);
            }
        }
    }

    private static void shadedAlready() {
        SundialTreaty x = two();
        Check.eq("shade(0)", x.shade(0), 0);
        Check.eqAndStays("shade(0) again", x, () -> x.shade(0), 1);
        Check.eq("shade(1)", x.shade(1), 0);
        x.clear(0);
        Check.eq("shade(0) when cleared", x.shade(0), 0);
        x.days(60);
        Check.eq("shade(0) days later", x.shade(0), 1);
    }

    private static void notShaded() {
        SundialTreaty x = two();
        Check.eqAndStays("clear(0)", x, () -> x.clear(0), 1);
        x.shade(1);
        Check.eqAndStays("clear(0) with another one shaded", x, () -> x.clear(0), 1);
        Check.eq("clear(1)", x.clear(1), 0);
        Check.eqAndStays("clear(1) again", x, () -> x.clear(1), 1);
    }

    private static void freeze() {
        SundialTreaty x = Check.valley("town a 0 fast 30;town b 0 slow 30;town c 0 fast 1;town d 0 slow 1;town e 0;");
        x.shade(0);
        x.freeze();
        int[] bends = {29, -29, 0, 0, 0};
        int[] sprung = {1, 1, 1, 1, 0};
        for (int t = 0; t < 5; t++) {
            Check.eq("bend of " + t, x.town(t, 1), bends[t]);
            Check.eq("sprung of " + t, x.town(t, 5), sprung[t]);
        }
        for (int i = 0; i < 40; i++) {
            x.freeze();
        }
        int[] then = {30, 30, 1, 1, 0};
        for (int t = 0; t < 5; t++) {
            Check.eq("bend of " + t + " in the end", x.town(t, 1), 0);
            Check.eq("sprung of " + t + " in the end", x.town(t, 5), then[t]);
        }
    }

    private static void allOver() {
        SundialTreaty x = two();
        Check.eq("the first day", x.now(0), 0);
        Check.toDay(x, 399);
        Check.eq("a due on the last day", x.town(1, 8), 1);
        x.bend(1, 1);
        Check.eq("a breach on the last day", x.now(2), 2);
        Check.eq("the last day goes", x.days(1), 1);
        Check.eq("it is day 400", x.now(0), 400);
        Check.eq("its breach was counted", x.town(1, 4), 1);
        Check.eq("no due any more", x.town(1, 8), 0);
        Check.eq("no breach any more", x.now(2), 0);
        Check.eqAndStays("no day more", x, () -> x.days(1), 0);
        Check.eqAndStays("none by draws", x, () -> x.drawn(60, 1), 0);
        Check.eq("a dial may still be bent", x.bend(0, -4), 0);
        Check.eq("and shaded", x.shade(0), 0);
        Check.eq("and spring back", x.freeze(), 2);
    }

    private static void breachMore() {
        SundialTreaty x = Check.valley("town a 0;town b 0;town c 0 fast 1;town d 0;term a 0 9 fast 1;term b 0 9 fast 1;"
                + "term c 0 9 fast 1;term d 2 3 fast 1;");
        x.shade(1);
        int[][] want = {{1, 0, 0, 0}, {2, 0, 0, 0}, {3, 0, 0, 1}, {4, 0, 0, 2}, {5, 0, 0, 2}};
        for (int[] row : want) {
            x.days(1);
            for (int t = 0; t < 4; t++) {
                Check.eq("breaches of " + t + " on day " + x.now(0), x.town(t, 4), row[t]);
            }
        }
        x.clear(1);
        x.shade(0);
        x.days(60);
        Check.eq("a in the shade", x.town(0, 4), 5);
        Check.eq("b cleared, to day 9", x.town(1, 4), 5);
        Check.eq("all of them", x.now(4), 12);
    }

    private static void nextDay() {
        SundialTreaty x = two();
        x.shade(1);
        x.bend(0, 1);
        for (int day = 1; day <= 400; day++) {
            x.days(1);
            if (x.now(0) != day) {
                Check.eq("the day", x.now(0), day);
            }
        }
        Check.eq("the day", x.now(0), 400);
        Check.eq("bends stay", x.town(0, 1), 29);
        Check.eq("shades stay", x.now(3), 2);
        Check.eq("a's breaches: days 1 and 2", x.town(0, 4), 2);
    }

    private static void town() {
        SundialTreaty x = two();
        int[] want = {20, 28, 0, 0, 0, 0, -8, 0, 0};
        int[] other = {30, -28, 0, 0, 0, 0, 58, 0, 1};
        for (int what = 0; what < 9; what++) {
            Check.eq("town(0, " + what + ")", x.town(0, what), want[what]);
            Check.eq("town(1, " + what + ")", x.town(1, what), other[what]);
        }
        int[] wrong = {-1, 9, 10, LEAST, MOST};
        for (int what : wrong) {
            Check.noneAndStays("town(0, " + what + ")", x, () -> x.town(0, what));
            Check.noneAndStays("town(2, " + what + ")", x, () -> x.town(2, what));
        }
        for (int t : NO_TOWN_OF_TWO) {
            for (int w = 0; w < 9; w++) {
                int what = w;
                Check.none("town(" + t + ", " + what + ")", () -> x.town(t, what));
            }
        }
        x.bend(1, 1);
        x.shade(1);
        x.days(3);
        x.clear(1);
        x.days(2);
        x.freeze();
        x.bend(1, 1);
        int[] then = {30, -25, 0, 1, 2, 1, 55, 1, 1};
        for (int what = 0; what < 9; what++) {
            Check.eq("town(1, " + what + ") then", x.town(1, what), then[what]);
        }
    }

    private static void due() {
        SundialTreaty x = two();
        Check.eq("due(1, 0)", x.due(1, 0), -28);
        Check.eq("due(1, 399)", x.due(1, 399), -28);
        int[] wrong = {-1, 400, 401, LEAST, MOST};
        for (int day : wrong) {
            Check.noneAndStays("due(1, " + day + ")", x, () -> x.due(1, day));
        }
        Check.noneAndStays("due(0, 0)", x, () -> x.due(0, 0));
        Check.eq("due(0, 1)", x.due(0, 1), 28);
        Check.eq("due(0, 2)", x.due(0, 2), 28);
        Check.noneAndStays("due(0, 3)", x, () -> x.due(0, 3));
        for (int t : NO_TOWN_OF_TWO) {
            Check.noneAndStays("due(" + t + ", 1)", x, () -> x.due(t, 1));
        }
        // It is told of days gone by, too, whatever day it is.
        Check.toDay(x, 400);
        Check.eq("due(0, 1) on day 400", x.due(0, 1), 28);
    }

    private static void showsNone() {
        SundialTreaty x = two();
        Check.eq("shows(0, 0)", x.shows(0, 0), 8);
        Check.eq("shows(0, 999)", x.shows(0, 999), 1007);
        int[] wrong = {-1, 1000, 1001, LEAST, MOST};
        for (int m : wrong) {
            Check.noneAndStays("shows(0, " + m + ")", x, () -> x.shows(0, m));
        }
        for (int t : NO_TOWN_OF_TWO) {
            Check.noneAndStays("shows(" + t + ", 5)", x, () -> x.shows(t, 5));
        }
        x.shade(0);
        Check.noneAndStays("shows(0, 5) of a shaded one", x, () -> x.shows(0, 5));
        Check.eq("shows(1, 5) of the other one", x.shows(1, 5), -53);
        x.clear(0);
        Check.eq("shows(0, 5) when cleared", x.shows(0, 5), 13);
    }

    private static void bits() {
        SundialTreaty x = Check.valley(Texts.towns(7) + "term a 0 0 fast 1;term g 0 0 fast 1;term d 0 0 fast 0;");
        Check.eq("none shaded", x.now(3), 0);
        x.shade(0);
        x.shade(6);
        Check.eq("the first and the last shaded", x.now(3), 65);
        for (int t = 1; t < 6; t++) {
            x.shade(t);
        }
        Check.eq("all shaded", x.now(3), 127);
        Check.eq("the first and the last in breach", x.now(2), 65);
    }

    private static void offInAll() {
        StringBuilder text = new StringBuilder();
        for (int t = 0; t < 7; t++) {
            text.append("town ").append((char) ('a' + t)).append(t % 2 == 0 ? " 0 fast 30;" : " 0 slow 30;");
        }
        SundialTreaty x = Check.valley(text.toString());
        x.shade(0);
        Check.eq("now(6): shaded ones, too", x.now(6), 210);
        Check.eq("now(1): shaded ones, too", x.now(1), 30);
        x.freeze();
        Check.eq("now(6)", x.now(6), 203);
        Check.eq("now(5)", x.now(5), 7);
    }

    private static void otherNow() {
        SundialTreaty x = two();
        int[] wrong = {-1, 7, 8, LEAST, MOST};
        for (int what : wrong) {
            Check.noneAndStays("now(" + what + ")", x, () -> x.now(what));
        }
        for (int what = 0; what < 7; what++) {
            int w = what;
            Check.eq("now(" + what + ") does not throw", Check.orThrown(() -> x.now(w), 9999) == 9999 ? 1 : 0, 0);
        }
    }

    private static void bend() {
        for (int m = -12; m <= 12; m++) {
            SundialTreaty x = Check.valley("town a 20;town b 3;limit 10;");
            boolean may = m != 0 && m >= -10 && m <= 10;
            Check.eq("bend(1, " + m + ")", x.bend(1, m), may ? 0 : -1);
            Check.eq("the bend", x.town(1, 1), may ? m : 0);
            Check.eq("bent on this day", x.town(1, 7), may ? 1 : 0);
            Check.eq("the other one", x.town(0, 1), 0);
        }
        SundialTreaty y = two();
        int[] wrong = {0, 11, -11, 30, LEAST, MOST};
        for (int m : wrong) {
            Check.eqAndStays("bend(0, " + m + ")", y, () -> y.bend(0, m), -1);
        }
        for (int t : NO_TOWN_OF_TWO) {
            Check.eqAndStays("bend(" + t + ", 1)", y, () -> y.bend(t, 1), -1);
        }
        Check.eqAndStays("bend(0, 5)", y, () -> y.bend(0, 5), 2);
        Check.eqAndStays("bend(0, 3)", y, () -> y.bend(0, 3), 3);
        y.bend(0, 1);
        Check.eqAndStays("bend(0, 1) again", y, () -> y.bend(0, 1), 1);
        Check.eqAndStays("bend(0, 0), bent already", y, () -> y.bend(0, 0), -1);
    }

    private static void shade() {
        SundialTreaty x = two();
        for (int t : NO_TOWN_OF_TWO) {
            Check.eqAndStays("shade(" + t + ")", x, () -> x.shade(t), -1);
        }
        Check.eq("shade(1)", x.shade(1), 0);
        Check.eq("shaded", x.now(3), 2);
    }

    private static void clear() {
        SundialTreaty x = two();
        x.shade(0);
        x.shade(1);
        for (int t : NO_TOWN_OF_TWO) {
            Check.eqAndStays("clear(" + t + ")", x, () -> x.clear(t), -1);
        }
        Check.eq("clear(1)", x.clear(1), 0);
        Check.eq("shaded", x.now(3), 1);
    }

    private static void springs() {
        Check.eq("freeze() without towns", new SundialTreaty().freeze(), 0);
        Check.eq("freeze() of dials that are right", Check.valley(Texts.towns(7)).freeze(), 0);
        SundialTreaty x = Check.valley("town a 0 fast 2;town b 0 slow 1;town c 0;");
        Check.eq("freeze()", x.freeze(), 2);
        Check.eq("freeze()", x.freeze(), 1);
        Check.eq("freeze()", x.freeze(), 0);
        Check.eq("sprung", x.now(5), 3);
    }

    private static void days() {
        SundialTreaty x = two();
        int[] wrong = {0, -1, 61, 400, LEAST, MOST};
        for (int n : wrong) {
            Check.eqAndStays("days(" + n + ")", x, () -> x.days(n), -1);
        }
        Check.eq("days(1)", x.days(1), 1);
        Check.eq("days(60)", x.days(60), 60);
        Check.eq("the day", x.now(0), 61);
        Check.toDay(x, 340);
        Check.eq("days(60) to the last one", x.days(60), 60);
        Check.eq("the day", x.now(0), 400);
        x.undo();
        Check.toDay(x, 341);
        Check.eq("days(60) with 59 left", x.days(60), 59);
        Check.eq("the day", x.now(0), 400);
        Check.eqAndStays("days(60) with none left", x, () -> x.days(60), 0);
        Check.eqAndStays("days(0) with none left", x, () -> x.days(0), -1);
        Check.eq("days(1) on day 399", Check.valleyOn(399, "town a 1;").days(1), 1);
    }

    private static void undoDone() {
        SundialTreaty x = two();
        String before = Check.all(x);
        x.bend(0, 5);
        x.bend(0, 3);
        x.bend(2, 1);
        x.bend(0, 0);
        x.clear(0);
        x.clear(2);
        x.shade(-1);
        Check.eq("undo() of what was not done", x.undo(), -1);
        x.bend(0, 2);
        Check.eq("undo() of a bend", x.undo(), 0);
        Check.yes("all is as it was", Check.all(x).equals(before));
        x.shade(1);
        x.shade(1);
        String shaded = Check.all(x);
        x.clear(1);
        x.clear(1);
        x.bend(1, -2);
        x.bend(1, -2);
        Check.eq("undo() of a bend", x.undo(), 2);
        Check.eq("undo() of a clear", x.undo(), 1);
        Check.yes("all is as it was", Check.all(x).equals(shaded));
        Check.eq("undo() of a shade", x.undo(), 0);
        Check.yes("all is as it was", Check.all(x).equals(before));
        Check.eq("undo() of none", x.undo(), -1);
    }

    private static void undoAboveNone() {
        SundialTreaty x = Check.valley("town a 0;");
        x.days(0);
        x.drawn(0, 1);
        x.days(61);
        x.drawn(61, 1);
        Check.eq("undo() of days not as told", x.undo(), -1);
        x.freeze();
        Check.eq("undo() of frost that springs none", x.undo(), 0);
        x.days(1);
        x.drawn(1, 1);
        Check.eq("undo() of a drawn day", x.undo(), 1);
        Check.eq("the day", x.now(0), 1);
        Check.eq("undo() of a day", x.undo(), 0);
        Check.eq("the day", x.now(0), 0);
        SundialTreaty y = Check.valleyOn(400, "town a 0 fast 1;term a 0 399 fast 0;");
        y.freeze();
        y.days(60);
        y.drawn(60, 1);
        y.undo();
        Check.eq("days() and drawn() of 0 are not kept: the frost was undone", y.town(0, 1), 1);
        Check.eq("breaches", y.now(4), 400);
        y.undo();
        Check.eq("then the last days", y.now(0), 360);
        Check.eq("and their breaches", y.now(4), 360);
    }

    private static void undoBook() {
        SundialTreaty x = two();
        String before = Check.land(x);
        Texts.BOOK.read(x, "bend a fast 1;shade b;day 9;freeze;day 2;");
        Check.eq("the day", x.now(0), 11);
        Check.eq("undo() of a book", x.undo(), 0);
        Check.eq("told(2) stays", x.told(2), 11);
        Check.eq("the day", x.now(0), 0);
        Check.eq("breaches, shaded, sprung", x.now(4) + x.now(3) + x.now(5), 0);
        Check.eq("a", x.town(0, 1) * 10 + x.town(0, 7), 280);
        Check.tape(x, "bend a fast 1;day 9;");
        x.book(0);
        Check.eq("undo() of one that was judged", x.undo(), -1);
        Texts.BOOK.read(x, "bend a fast 1;day");
        Check.eq("undo() of one with a fault", x.undo(), -1);
        // A choice (NOTES.md): it was lived, even if no line of it was.
        Texts.BOOK.read(x, "clear a;");
        Check.eq("undo() of one that was wrong at once", x.undo(), 0);
        Texts.BOOK.read(x, "day 3;clear a;day 3;");
        Check.eq("the day, lived as far as it is not wrong", x.now(0), 3);
        Check.eq("undo()", x.undo(), 0);
        Check.eq("the day", x.now(0), 0);
        Check.yes("all is as it was", Check.land(x).equals(before));
    }

    private static void undoEight() {
        for (int acts = 1; acts <= 20; acts++) {
            SundialTreaty x = Check.valley("town a 0;");
            for (int i = 0; i < acts; i++) {
                x.days(1);
            }
            int can = Math.min(acts, 8);
            for (int left = can - 1; left >= 0; left--) {
                Check.eq("undo() of " + acts, x.undo(), left);
                Check.eq("the day then", x.now(0), acts - can + left);
            }
            Check.eq("undo() of one more", x.undo(), -1);
            Check.eq("the day stays", x.now(0), acts - can);
        }
        // Undone and done again, over and over: the oldest go first.
        SundialTreaty y = Check.valley("town a 0;");
        for (int i = 0; i < 8; i++) {
            y.days(2);
        }
        y.undo();
        y.undo();
        y.days(1);
        y.days(1);
        y.days(1);
        int[] days = {14, 13, 12, 10, 8, 6, 4, 2};
        for (int i = 0; i < 8; i++) {
            Check.eq("undo()", y.undo(), 7 - i);
            Check.eq("the day then", y.now(0), days[i]);
        }
        Check.eq("undo() of a ninth", y.undo(), -1);
    }

    private static void undoNone() {
        SundialTreaty x = new SundialTreaty();
        Check.eq("undo() of a new object", x.undo(), -1);
        SundialTreaty y = two();
        Check.eqAndStays("undo() in a new valley", y, y::undo, -1);
        y.days(1);
        y.undo();
        Check.eqAndStays("undo() when all is undone", y, y::undo, -1);
        y.days(1);
        y.image(0);
        y.restore(0);
        Check.eqAndStays("undo() when restored", y, y::undo, -1);
        y.days(1);
        Texts.VALLEY.read(y, "town a 1;");
        Check.eqAndStays("undo() in another valley", y, y::undo, -1);
    }

    private static void throwsChangeNothing() {
        SundialTreaty x = Check.valley(Texts.HOME);
        Texts.SENTENCE.read(x, "fast > 1 or slow > 1");
        x.bend(0, 1);
        x.shade(2);
        x.days(2);
        x.even();
        x.nearer();
        x.motto(0);
        x.route(0, 1, 0);
        Texts.BOOK.read(x, "clear a;");
        Texts.VALLEY.read(x, "?");
        x.feed(1, 2, 3, 4, 5);
        Check.noneAndStays("town(9, 9)", x, () -> x.town(9, 9));
        Check.noneAndStays("due(1, 5)", x, () -> x.due(1, 5));
        Check.noneAndStays("train(1, 0)", x, () -> x.train(1, 0));
        Check.noneAndStays("shows(2, 5)", x, () -> x.shows(2, 5));
        Check.noneAndStays("now(7)", x, () -> x.now(7));
        Check.noneAndStays("evenAt(3)", x, () -> x.evenAt(3));
        Check.noneAndStays("spare(0, 0)", x, () -> x.spare(0, 0));
        Check.noneAndStays("votes(0, 61)", x, () -> x.votes(0, 61));
        Check.noneAndStays("nearerAt(3)", x, () -> x.nearerAt(3));
        x.shade(0);
        x.shade(1);
        Check.noneAndStays("noonLong()", x, x::noonLong);
        Check.noneAndStays("oneNoon()", x, x::oneNoon);
        Check.eq("what can be undone stays", x.undo(), 5);
    }
}
