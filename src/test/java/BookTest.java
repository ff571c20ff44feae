/** Promises 36, 37 and 5: books. */
final class BookTest {
    private static final String TEXT = "town a 20 fast 5;town b 30;town c 5;term a 0 399 fast 5;term b 3 9 slow 2;"
            + "train k a b 0 1;limit 4;";

    public static void main(String[] args) {
        judged();
        lived();
        wrongLines();
        faults();
        tooLong();
        toldStays();
        Check.finish("BookTest");
    }

    private static void book(SundialTreaty x, String text, int lives, int want, int... told) {
        Check.tape(x, text);
        Check.eq("book(" + lives + ") of " + Check.brief(text), x.book(lives), want);
        Check.eq("fault() of " + Check.brief(text), x.fault(), 0);
        Check.eq("the tape behind " + Check.brief(text), x.count(6), 0);
        for (int what = 0; what < told.length; what++) {
            Check.eq("told(" + what + ") of " + Check.brief(text), x.told(what), told[what]);
        }
    }

    private static void judged() {
        SundialTreaty x = Check.valley(TEXT);
        Check.eq("told(0) ahead of any", x.told(0), -1);
        book(x, "", 0, -1, 0, 0, 0, 0);
        book(x, "bend a fast 4;shade b;day 3;clear b;freeze;bend b slow 4;", 0, -1, 0, 6, 3, 3);
        Check.eq("the day stays", x.now(0), 0);
        Check.eq("bends stay", x.now(1), 5);
        Check.eq("shades stay", x.now(3), 0);
        Check.eq("sprung stays", x.now(5), 0);
        Check.eq("undo() of none", x.undo(), -1);
        Check.eq("told(4)", x.told(4), -1);
        Check.eq("told(-1)", x.told(-1), -1);
    }

    private static void lived() {
        SundialTreaty x = Check.valley(TEXT);
        book(x, "bend a fast 4 ; shade\nb;day 3;clear b;freeze;bend b slow 4;", 1, -1, 0, 6, 3, 3);
        Check.eq("the day", x.now(0), 3);
        Check.eq("a", x.town(0, 1), 8);
        Check.eq("b", x.town(1, 1), -4);
        Check.eq("b was bent today", x.town(1, 7), 1);
        Check.eq("breaches", x.now(4), 3);
        Check.eq("sprung", x.now(5), 1);
        book(x, "bend c fast 1;bend b fast 1;day 1;", 1, 1, 1, 1, 3, 3);
        Check.eq("c was bent as far as it is not wrong", x.town(2, 1), 1);
        Check.eq("the day stays", x.now(0), 3);
        Check.eq("undo()", x.undo(), 1);
        Check.eq("c is as it was", x.town(2, 1), 0);
        Check.eq("undo()", x.undo(), 0);
        Check.eq("all is as it was", x.now(0) * 100 + x.now(1), 5);
    }

    private static void wrongLines() {
        SundialTreaty x = Check.valley(TEXT);
        book(x, "bend a fast 1;bend a fast 1;", 0, 1, 1, 1, 0, 1);
        book(x, "bend a fast 5;", 0, 0, 2, 0, 0, 0);
        book(x, "bend a slow 5;", 0, 0, 2, 0, 0, 0);
        book(x, "bend b slow 4;day 1;bend b slow 4;day 1;bend b slow 4;day 1;bend b slow 4;day 1;bend b slow 4;day 1;"
                + "bend b slow 4;day 1;bend b slow 4;day 1;bend b slow 4;day 1;", 0, 14, 3, 14, 7, 2);
        book(x, "shade a;shade b;shade a;", 0, 2, 11, 2, 0, 0);
        book(x, "clear a;", 0, 0, 21, 0, 0, 0);
        book(x, "shade a;clear a;clear a;", 0, 2, 21, 2, 0, 0);
        book(x, "day 60;day 60;day 60;day 60;day 60;day 60;day 40;", 0, -1, 0, 7, 400, 0);
        book(x, "day 60;day 60;day 60;day 60;day 60;day 60;freeze;day 41;", 0, 7, 41, 7, 360, 1);
        book(x, "day 60;day 60;day 60;day 60;day 60;day 60;day 40;bend a fast 1;day 1;", 1, 8, 41, 8, 400, 0);
        Check.eq("the day", x.now(0), 400);
        Check.eq("a", x.town(0, 1), 6);
        book(Check.valley("town a 1;limit 10;"), "bend a fast 10;day 60;bend a slow 10;", 0, -1, 0, 3, 60, 0);
        // A dial that was bent on the day by bend() is not bent by a book.
        SundialTreaty y = Check.valley(TEXT);
        y.bend(0, 1);
        book(y, "bend a fast 1;", 1, 0, 1, 0, 0, 1);
        book(y, "day 1;bend a fast 1;", 1, -1, 0, 2, 1, 1);
    }

    private static void fault(String text, int kind, int place) {
        for (int lives = 0; lives < 2; lives++) {
            SundialTreaty x = Check.valley(TEXT);
            Check.tape(x, text);
            Check.eq("book() of " + Check.brief(text), x.book(lives), -2 - place);
            Check.eq("fault() of " + Check.brief(text), x.fault(), kind);
            Check.eq("the tape behind " + Check.brief(text), x.count(6), 0);
            Check.eq("told(0) behind " + Check.brief(text), x.told(0), -1);
            Check.eq("undo() behind " + Check.brief(text), x.undo(), -1);
            Check.eq("the day behind " + Check.brief(text), x.now(0), 0);
        }
    }

    private static void faults() {
        fault(";", 1, 0);
        fault("freeze", 1, 6);
        fault("freeze;;", 1, 7);
        fault("day 1;town a 1;", 1, 6);
        fault("a;", 1, 0);
        fault("1;", 1, 0);
        fault("days 1;", 1, 0);
        fault("day 0;", 2, 4);
        fault("day 61;", 2, 4);
        fault("day a;", 1, 4);
        fault("day 1000;", 1, 4);
        fault("freeze 1;", 1, 7);
        fault("bend a fast 0;", 2, 12);
        fault("bend a fast 11;", 2, 12);
        fault("bend a 1;", 1, 7);
        fault("bend a fast;", 1, 11);
        fault("bend d fast 1;", 3, 5);
        fault("bend k fast 1;", 3, 5);
        fault("shade k;", 3, 6);
        fault("shade d;", 3, 6);
        fault("shade day;", 1, 6);
        fault("shade town;", 1, 6);
        fault("shade 1;", 1, 6);
        fault("clear k;", 3, 6);
        fault("clear a b;", 1, 8);
        fault("clear", 1, 5);
        String forty = "freeze;".repeat(40);
        fault(forty + "freeze;", 4, 280);
        fault(forty + "bend zz;", 4, 280);
        fault(forty + "thaw;", 1, 280);
        fault(forty + "1", 1, 280);
        book(Check.valley(TEXT), forty + " \n", 0, -1, 0, 40, 0, 1);
    }

    private static void tooLong() {
        book(Check.valley(TEXT), "freeze;" + Check.blanks(393), 0, -1, 0, 1, 0, 1);
        fault("freeze;" + Check.blanks(394), 1, 400);
        fault("day" + Check.blanks(396) + "61;", 2, 399);
        fault("day" + Check.blanks(396) + "60;", 1, 400);
        fault("day" + Check.blanks(397) + "61;", 1, 400);
        fault("day 61;" + Check.blanks(500), 2, 4);
    }

    private static void toldStays() {
        SundialTreaty x = Check.valley(TEXT);
        book(x, "shade a;shade a;", 0, 1, 11, 1, 0, 0);
        Check.tape(x, "shade z;");
        Check.eq("book(2)", x.book(2), -1000);
        Check.eq("book(-1)", x.book(-1), -1000);
        Check.eq("fault() is left", x.fault(), 0);
        Check.eq("the tape stays", x.count(6), 8);
        Check.eq("told(0) stays", x.told(0), 11);
        Check.eq("book(1) with a fault", x.book(1), -8);
        Check.eq("fault()", x.fault(), 3);
        Check.eq("told(0) stays by a fault", x.told(0), 11);
        Check.eq("book(2)", x.book(2), -1000);
        Check.eq("fault() is left", x.fault(), 3);
        x.days(5);
        Check.eq("told(2) stays", x.told(2), 0);
    }
}
