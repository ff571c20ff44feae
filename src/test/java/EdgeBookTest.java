/** What 'Terms' tells of a BOOK, promises 36 and 37: a test for each sentence that names an edge. */
final class EdgeBookTest {
    private static final int LEAST = Integer.MIN_VALUE;
    private static final int MOST = Integer.MAX_VALUE;

    public static void main(String[] args) {
        Check.sentence("A BOOK is a text of at most 400 bytes: { LINE ; }, 40 at most", EdgeBookTest::lines);
        Check.sentence("'bend' TOWN WAY N (1 to 10)", EdgeBookTest::bendRange);
        Check.sentence("'day' N (1 to 60)", EdgeBookTest::dayRange);
        Check.sentence("it is judged, all staying as it is (lives 0)", EdgeBookTest::judged);
        Check.sentence("or lived as far as it is not WRONG (1)", EdgeBookTest::lived);
        Check.sentence("the LINE that is WRONG; NONE: none", EdgeBookTest::wrongLine);
        Check.sentence("-2 less the place of a FAULT", EdgeBookTest::fault);
        Check.sentence("-1000: another lives (the tape stays)", EdgeBookTest::otherLives);
        Check.sentence("0 why it was WRONG (0: it was not; as for bending", EdgeBookTest::whyBending);
        Check.sentence("10 more as for shading, 20 for clearing", EdgeBookTest::whyShading);
        Check.sentence("41: fewer DAYS are left", EdgeBookTest::fewerDays);
        Check.sentence("1 LINES that are not, 2 the DAY then, 3 TOWNS in BREACH then, as bits", EdgeBookTest::toldThen);
        Check.sentence("Of the latest book() that had no FAULT (and was not -1000)", EdgeBookTest::latest);
        Check.sentence("NONE: another what, or ahead of any.", EdgeBookTest::notTold);
        Check.finish("EdgeBookTest");
    }

    private static SundialTreaty home() {
        return Check.valley(Texts.HOME);
    }

    private static int book(SundialTreaty x, int lives, String text) {
        Check.tape(x, text);
        return x.book(lives);
    }

    /** It is judged, then lived: the answers must be alike. */
    private static void told(SundialTreaty x, String text, int answer, int... told) {
        for (int lives = 0; lives < 2; lives++) {
            Check.eq("book(" + lives + ") of " + Check.brief(text), book(x, lives, text), answer);
            for (int what = 0; what < told.length; what++) {
                Check.eq("told(" + what + ") of " + Check.brief(text), x.told(what), told[what]);
            }
        }
    }

    private static void lines() {
        told(home(), "", -1, 0, 0, 0, 1);
        told(home(), " \n", -1, 0, 0, 0, 1);
        told(home(), "freeze;", -1, 0, 1, 0, 0);
        told(home(), "freeze;".repeat(40), -1, 0, 40, 0, 1);
        told(home(), "freeze;".repeat(40) + Check.blanks(120), -1, 0, 40, 0, 1);
        Texts.BOOK.fault("freeze;".repeat(40) + Check.blanks(121), 1, 400);
        Texts.BOOK.fault("freeze;".repeat(41), 4, 280);
        Texts.BOOK.fault("freeze;;", 1, 7);
        Texts.BOOK.fault("freeze", 1, 6);
        // A 40th line that is wrong: the last one is the 39th from 0.
        told(home(), "freeze;".repeat(39) + "clear a;", 39, 21, 39, 0, 1);
    }

    private static void bendRange() {
        Texts.BOOK.range("bend a fast ", ";", 1, 10, -1);
        Texts.BOOK.range("bend a slow ", ";", 1, 10, -1);
        SundialTreaty x = home();
        book(x, 1, "bend a fast 10;bend b slow 10;");
        Check.eq("a then", x.town(0, 1), 15);
        Check.eq("b then", x.town(1, 1), -14);
    }

    private static void dayRange() {
        Texts.BOOK.range("day ", ";", 1, 60, -1);
        SundialTreaty x = home();
        book(x, 1, "day 60;day 1;");
        Check.eq("the day then", x.now(0), 61);
    }

    private static void judged() {
        SundialTreaty x = home();
        Texts.SENTENCE.read(x, "right");
        x.shade(2);
        x.bend(1, 1);
        x.days(3);
        String before = Check.land(x);
        Check.eq("book(0)", book(x, 0, "bend a fast 4;shade b;clear c;day 9;freeze;bend a slow 2;"), -1);
        Check.yes("all stays as it is", Check.land(x).equals(before));
        Check.eq("book(0) of a wrong one", book(x, 0, "bend a fast 4;shade b;shade c;"), 2);
        Check.yes("all stays as it is", Check.land(x).equals(before));
        Check.eq("what can be undone stays", x.undo(), 2);
    }

    private static void lived() {
        SundialTreaty x = home();
        SundialTreaty y = home();
        Check.eq("book(1)", book(x, 1, "bend a fast 4;shade b;day 9;freeze;bend a slow 2;clear b;"), -1);
        y.bend(0, 4);
        y.shade(1);
        y.days(9);
        y.freeze();
        y.bend(0, -2);
        y.clear(1);
        Check.yes("all is as by calls", Check.land(x).equals(Check.land(y)));
        // Ahead of the wrong line all is done, behind it nothing.
        SundialTreaty z = home();
        Check.eq("book(1) of a wrong one", book(z, 1, "shade a;day 2;bend b fast 1;clear c;day 5;freeze;"), 3);
        Check.eq("the day", z.now(0), 2);
        Check.eq("shaded", z.now(3), 1);
        Check.eq("b", z.town(1, 1) * 10 + z.town(1, 7), -29);
        Check.eq("sprung", z.now(5), 0);
        Check.eq("undo()", z.undo(), 0);
        Check.eq("the day", z.now(0), 0);
        // The first line is wrong: nothing is done.
        SundialTreaty w = home();
        Check.eq("book(1) of one that is wrong at once", book(w, 1, "clear a;day 5;"), 0);
        Check.eq("the day", w.now(0), 0);
    }

    private static void wrongLine() {
        told(home(), "clear a;", 0, 21, 0);
        told(home(), "shade a;shade a;", 1, 11, 1);
        told(home(), "shade a;clear a;shade a;clear a;clear a;shade b;shade b;", 4, 21, 4);
        told(home(), "shade a;clear a;shade a;clear a;", -1, 0, 4);
    }

    private static void fault() {
        Texts.BOOK.fault("?", 1, 0);
        Texts.BOOK.fault("day 0;", 2, 4);
        Texts.BOOK.fault("shade a;shade a;shade z;", 3, 22);
        Texts.BOOK.fault("freeze;".repeat(40) + "freeze;", 4, 280);
        Texts.BOOK.fault(Check.blanks(401), 1, 400);
        SundialTreaty x = home();
        Check.eq("book(0) of a fault", book(x, 0, "day 1;day 61;"), -2 - 10);
        // A wrong line is no fault, and a fault is found behind it.
        Check.eq("book(0) of a fault behind a wrong line", book(x, 0, "clear a;day 61;"), -2 - 12);
        Check.eq("fault()", x.fault(), 2);
        Check.eq("book(0) of a wrong line", book(x, 0, "clear a;day 60;"), 0);
        Check.eq("fault()", x.fault(), 0);
    }

    private static void otherLives() {
        SundialTreaty x = home();
        Texts.VALLEY.read(x, "limit 0;");
        Check.tape(x, "shade a;day 3;");
        int[] others = {-1, 2, 3, -1000, LEAST, MOST};
        for (int lives : others) {
            Check.eqAndStays("book(" + lives + ")", x, () -> x.book(lives), -1000);
        }
        Check.eq("the tape's bytes", x.count(6), 14);
        Check.eq("book(1) of the tape that stayed", x.book(1), -1);
        Check.eq("the day", x.now(0), 3);
        Check.eq("the tape is empty", x.count(6), 0);
    }

    private static void whyBending() {
        SundialTreaty x = Check.valley("town a 0 fast 28;town b 0 slow 28;limit 4;");
        told(x, "bend a fast 5;", 0, 2, 0, 0, 0);
        told(x, "bend b slow 5;", 0, 2, 0, 0, 0);
        told(x, "bend a fast 3;", 0, 3, 0, 0, 0);
        told(x, "bend b slow 3;", 0, 3, 0, 0, 0);
        Check.eq("told of a good one", book(x, 0, "bend a fast 2;bend b slow 2;"), -1);
        Check.eq("why", x.told(0), 0);
        Check.eq("book(0)", book(x, 0, "bend a fast 2;bend a fast 10;"), 1);
        Check.eq("why", x.told(0), 1);
        Check.eq("book(0) a day later", book(x, 0, "bend a fast 2;day 1;bend a fast 1;"), 2);
        Check.eq("why", x.told(0), 3);
        x.bend(0, -1);
        told(x, "bend a fast 1;", 0, 1, 0, 0, 0);
        // By 10 with the limit 10.
        Check.eq("limit 10", book(Check.valley("town a 0 fast 20;limit 10;"), 0, "bend a fast 10;"), -1);
        Check.eq("limit 9", book(Check.valley("town a 0 fast 20;limit 9;"), 0, "bend a fast 10;"), 0);
    }

    private static void whyShading() {
        SundialTreaty x = home();
        x.shade(1);
        told(x, "shade b;", 0, 11, 0, 0, 1);
        told(x, "clear a;", 0, 21, 0, 0, 1);
        Check.eq("good ones", book(x, 0, "shade a;clear b;"), -1);
        Check.eq("why", x.told(0), 0);
    }

    private static void fewerDays() {
        for (int left = 0; left <= 61; left += left == 2 ? 56 : 1) {
            for (int n = 1; n <= 60; n += n == 2 ? 55 : 1) {
                SundialTreaty x = Check.valleyOn(400 - left, "town a 0;");
                boolean fits = n <= left;
                String text = "freeze;day " + n + ";freeze;";
                Check.eq("book(1) of " + text + " with " + left + " left", book(x, 1, text), fits ? -1 : 1);
                Check.eq("why", x.told(0), fits ? 0 : 41);
                Check.eq("lines", x.told(1), fits ? 3 : 1);
                Check.eq("the day then", x.told(2), fits ? 400 - left + n : 400 - left);
                Check.eq("the day", x.now(0), fits ? 400 - left + n : 400 - left);
            }
        }
        told(Check.valleyOn(400, "town a 0 fast 1;"), "day 1;", 0, 41, 0, 400, 0);
    }

    private static void toldThen() {
        String text = "town a 0;town b 0;town c 0;term b 5 5 fast 1;term c 0 9 fast 1;term c 399 399 fast 1;";
        told(Check.valley(text), "", -1, 0, 0, 0, 4);
        Check.eq("book(0)", book(Check.valley(text), 0, "day 5;"), -1);
        SundialTreaty x = Check.valley(text);
        book(x, 0, "day 5;shade c;");
        Check.eq("lines", x.told(1), 2);
        Check.eq("the day then", x.told(2), 5);
        Check.eq("in breach then, a shaded one, too", x.told(3), 6);
        book(x, 0, "day 5;bend b fast 1;clear c;bend c fast 1;");
        Check.eq("lines ahead of the wrong one", x.told(1), 2);
        Check.eq("in breach then", x.told(3), 4);
        book(x, 0, "day 10;");
        Check.eq("in breach then", x.told(3), 0);
        book(x, 0, "day 60;".repeat(6) + "day 40;");
        Check.eq("the day then", x.told(2), 400);
        Check.eq("in breach on day 400", x.told(3), 0);
        Check.eq("all stays", x.now(0), 0);
    }

    private static void latest() {
        SundialTreaty x = home();
        book(x, 1, "day 7;clear a;");
        int[] want = {21, 1, 7, 1};
        String[] faults = {"day 61;", "?", "freeze;".repeat(41), "shade z;"};
        for (String text : faults) {
            book(x, 1, text);
            book(x, 0, text);
            x.book(2);
            for (int what = 0; what < 4; what++) {
                Check.eq("told(" + what + ") behind " + Check.brief(text), x.told(what), want[what]);
            }
        }
        x.days(3);
        x.undo();
        x.undo();
        Texts.VALLEY.read(x, "");
        Check.eq("told(2) stays by days, undo, a new valley", x.told(2), 7);
        book(x, 0, "");
        Check.eq("told(2) of the next one", x.told(2), 0);
        Check.eq("told(0) of the next one", x.told(0), 0);
    }

    private static void notTold() {
        SundialTreaty x = home();
        for (int what = -1; what < 5; what++) {
            Check.eq("told(" + what + ") ahead of any", x.told(what), -1);
        }
        book(x, 1, "day 61;");
        book(x, 0, "?");
        x.book(2);
        for (int what = -1; what < 5; what++) {
            Check.eq("told(" + what + ") behind faults alone", x.told(what), -1);
        }
        book(x, 0, "");
        int[] wrong = {-1, 4, 5, LEAST, MOST};
        for (int what : wrong) {
            Check.eqAndStays("told(" + what + ")", x, () -> x.told(what), -1);
        }
    }
}
