/** Promises 4 and 5: the text of a valley and its faults. */
final class ValleyTextTest {
    private static final String TWO = "town a 1;town b 1;";

    public static void main(String[] args) {
        good();
        tokens();
        numbers();
        names();
        tooMany();
        ends();
        tooLong();
        staysOnFault();
        startsAnew();
        Check.finish("ValleyTextTest");
    }

    private static void good() {
        lines("", 0);
        lines(" \n \n", 0);
        lines("town abcdefg 000;", 1);
        lines("town\na\n60\nfast\n30\n;\n", 1);
        lines("town a 1;limit 1;change 30;frost 12;term a 0 399 slow 0;term a 399 399 fast 30;", 6);
        lines(TWO + "train k a b 600 200;train l b a 0 1;", 4);
        lines("town abc 1;town abcd 1;town ab 1;", 3);
        lines("limit 10;change 0;frost 0;", 3);
        lines(Texts.towns(7) + "limit 1;", 8);
        lines("town a 1;" + Texts.terms(12), 13);
        lines(TWO + Texts.trains(8), 10);
        SundialTreaty x = Check.valley("town a 7 fast 30;town b 8 slow 1;town c 9;term b 5 6 slow 30;term b 0 399 fast 2;");
        Check.eq("bend of a", x.town(0, 1), 30);
        Check.eq("bend of b", x.town(1, 1), -1);
        Check.eq("bend of c", x.town(2, 1), 0);
        Check.eq("noon of c", x.town(2, 0), 9);
        Check.eq("due of b", x.due(1, 4), 2);
        Check.eq("due of b by the first term", x.due(1, 5), -30);
    }

    private static void tokens() {
        Check.valleyFault("Town a 1;", 1, 0);
        Check.valleyFault("town a\t1;", 1, 6);
        Check.valleyFault("town a 1\r;", 1, 8);
        Check.valleyFault("town a 1.", 1, 8);
        Check.valleyFault("town a 1;.", 1, 9);
        Check.valleyFault("town abcdefgh 1;", 1, 5);
        Check.valleyFault("town a1 1;", 1, 5);
        Check.valleyFault("town a 1234;", 1, 7);
        Check.valleyFault("town a 0001;", 1, 7);
        Check.valleyFault("town a 1a;", 1, 7);
        Check.valleyFault("town a -1;", 1, 7);
        Check.valleyFault("town a 1fast 3;", 1, 7);
        Check.valleyFault("towna 1;", 1, 0);
        Check.valleyFault("town a \u00e9;", 1, 7);
        Check.valleyFault("town a 1 \u0000;", 1, 9);
        Check.valleyFault(";", 1, 0);
        Check.valleyFault("town a 1;;", 1, 9);
        Check.valleyFault("12;", 1, 0);
        Check.valleyFault("city a 1;", 1, 0);
        Check.valleyFault("bend a fast 1;", 1, 0);
        Check.valleyFault("town a b;", 1, 7);
        Check.valleyFault("town 1 1;", 1, 5);
        Check.valleyFault("town a 1 2;", 1, 9);
        Check.valleyFault("town a 1 up 2;", 1, 9);
        Check.valleyFault("town a 1 fast;", 1, 13);
        Check.valleyFault("town a 1 fast 2 slow 2;", 1, 16);
        Check.valleyFault("town a 1;term a 0 0 1;", 1, 20);
        Check.valleyFault("town a 1;term 1 0 0 fast 1;", 1, 14);
        Check.valleyFault(TWO + "train k a b 0;", 1, 31);
        Check.valleyFault(TWO + "train k a 0 1;", 1, 28);
        Check.valleyFault("limit a;", 1, 6);
        Check.valleyFault("limit <;", 1, 6);
    }

    private static void numbers() {
        Check.valleyFault("town a 61;", 2, 7);
        Check.valleyFault("town a 1 fast 0;", 2, 14);
        Check.valleyFault("town a 1 slow 31;", 2, 14);
        Check.valleyFault("town a 1;term a 400 400 fast 1;", 2, 16);
        Check.valleyFault("town a 1;term a 5 4 fast 1;", 2, 18);
        Check.valleyFault("town a 1;term a 5 400 fast 1;", 2, 18);
        Check.valleyFault("town a 1;term a 5 5 fast 31;", 2, 25);
        Check.valleyFault(TWO + "train k a b 601 1;", 2, 30);
        Check.valleyFault(TWO + "train k a b 600 0;", 2, 34);
        Check.valleyFault(TWO + "train k a b 600 201;", 2, 34);
        Check.valleyFault("limit 0;", 2, 6);
        Check.valleyFault("limit 11;", 2, 6);
        Check.valleyFault("change 31;", 2, 7);
        Check.valleyFault("frost 13;", 2, 6);
    }

    private static void names() {
        String[] told = {"town", "fast", "slow", "term", "train", "limit", "change", "frost", "bend", "shade", "clear",
            "freeze", "day", "or", "and", "not", "right", "shaded", "breach", "ahead", "broken", "number"};
        for (String word : told) {
            Check.valleyFault("town " + word + " 1;", 1, 5);
            Check.valleyFault(TWO + "train " + word + " a b 0 1;", 1, 24);
            Check.valleyFault(TWO + "term " + word + " 0 0 fast 1;", 1, 23);
        }
        lines("town noon 1;town name 2;town way 3;town days 4;town bends 5;", 5);
        Check.valleyFault("town a 1;town a 1;", 3, 14);
        Check.valleyFault(TWO + "train a a b 0 1;", 3, 24);
        Check.valleyFault(TWO + "train k a b 0 1;train k b a 0 1;", 3, 40);
        Check.valleyFault(TWO + "train k a b 0 1;town k 1;", 3, 39);
        Check.valleyFault(TWO + "train k a b 0 1;term k 0 0 fast 1;", 3, 39);
        Check.valleyFault(TWO + "train k k b 0 1;", 3, 26);
        Check.valleyFault(TWO + "train k a c 0 1;", 3, 28);
        Check.valleyFault(TWO + "train k a a 0 1;", 3, 28);
        Check.valleyFault("term a 0 0 fast 1;town a 1;", 3, 5);
        Check.valleyFault("limit 1;limit 1;", 3, 8);
        Check.valleyFault("frost 0;frost 0;", 3, 8);
        Check.valleyFault("change 2;change 2;", 3, 9);
    }

    private static void tooMany() {
        String seven = Texts.towns(7);
        Check.valleyFault(seven + "town a 99;", 4, seven.length());
        Check.valleyFault("town a 1;" + Texts.terms(13), 4, 9 + 12 * 18);
        Check.valleyFault(TWO + Texts.trains(9), 4, 18 + 8 * 17);
        Check.valleyFault(seven + "tow h 1;", 1, seven.length());
    }

    private static void ends() {
        Check.valleyFault("town", 1, 4);
        Check.valleyFault("town a", 1, 6);
        Check.valleyFault("town a 1", 1, 8);
        Check.valleyFault("town a 1 \n ", 1, 11);
        Check.valleyFault("town a 1 fast", 1, 13);
        Check.valleyFault("town a 61", 2, 7);
        // What end() took off the tape is not read.
        for (String behind : new String[] {"       ", "9;     ", ";      "}) {
            SundialTreaty x = new SundialTreaty();
            Check.tape(x, "town a 1" + behind);
            x.end(8);
            Check.eq("valley() of a cut tape", x.valley(), -9);
            Check.eq("its fault", x.fault(), 1);
        }
        Check.valleyFault("limit 3", 1, 7);
    }

    private static void tooLong() {
        lines("town a 1;" + Check.blanks(891), 1);
        Check.valleyFault("town a 1;" + Check.blanks(892), 1, 900);
        Check.valleyFault(Check.blanks(901), 1, 900);
        Check.valleyFault("town a 61;" + Check.blanks(900), 2, 7);
        // The last token begins at 899 and is read whole.
        Check.valleyFault("town a" + Check.blanks(893) + "61;", 2, 899);
        Check.valleyFault("town a" + Check.blanks(893) + "60;", 1, 900);
        Check.valleyFault("town a" + Check.blanks(893) + "6000;", 1, 899);
        Check.valleyFault("town a" + Check.blanks(894) + "61;", 1, 900);
        Check.valleyFault("limit 1;" + Check.blanks(891) + "limit 1;", 3, 899);
        Check.valleyFault("limit 1;" + Check.blanks(892) + "limit 1;", 1, 900);
        Check.valleyFault(Check.blanks(940), 1, 900);
        Check.valleyFault("town a" + Check.blanks(893) + "1" + Check.blanks(40), 1, 900);
        Check.valleyFault("limit 11;" + "x".repeat(931), 2, 6);
        lines(Check.blanks(891) + "town a 1;", 1);
        Check.valleyFault(Check.blanks(892) + "town a 1;", 1, 900);
        Check.valleyFault("town a 1;" + Check.blanks(891) + "\u0001", 1, 900);
        Check.valleyFault("town a 1;" + Check.blanks(890) + "\u0001;", 1, 899);
    }

    private static void staysOnFault() {
        SundialTreaty x = Check.valley("town a 5 fast 4;limit 7;");
        Check.tape(x, "ahead a or right");
        Check.eq("sentence()", x.sentence(), 2);
        Check.eq("bend", x.bend(0, 7), 0);
        Check.eq("days", x.days(3), 3);
        Check.tape(x, "town b 1;town c 1;limit 11;");
        Check.eq("valley() with a fault", x.valley(), -25);
        Check.eq("fault()", x.fault(), 2);
        Check.eq("towns stay", x.count(0), 1);
        Check.eq("limit stays", x.count(3), 7);
        Check.eq("the day stays", x.now(0), 3);
        Check.eq("the bend stays", x.town(0, 1), 11);
        Check.eq("the sentence stays", x.said(-1), 0);
        Check.eq("undo stays", x.undo(), 1);
        Check.tape(x, "freeze;");
        Check.eq("book(0)", x.book(0), -1);
        Check.eq("fault() is gone", x.fault(), 0);
    }

    private static void startsAnew() {
        SundialTreaty x = Check.valley("town a 5 fast 4;term a 0 399 fast 0;");
        Check.tape(x, "right");
        x.sentence();
        x.shade(0);
        x.clear(0);
        x.bend(0, 1);
        x.days(2);
        x.freeze();
        x.shade(0);
        x.bend(0, 1);
        Check.tape(x, "town b 5 fast 3;");
        Check.eq("valley()", x.valley(), 1);
        int[] want = {0, 3, 0, 0, 0, 0, 3};
        for (int what = 0; what < want.length; what++) {
            Check.eq("now(" + what + ")", x.now(what), want[what]);
        }
        Check.eq("bent today", x.town(0, 7), 0);
        Check.eq("said(-1)", x.said(-1), -1);
        Check.eq("undo()", x.undo(), -1);
        // One valley behind the other, a bad one between: nothing is left of those ahead.
        String[] texts = {"town a 1;town c 2;term a 0 9 fast 1;train k a c 0 1;limit 4;", "town a 1;town c 2;term a 0 9 up 1;",
            "town d 1;", "town e 1 fast 2;frost 2;", "town a 1;town b 2;term b 0 9 fast 1;train k a b 0 1;change 4;"};
        int[][] wants = {{2, 1, 1, 4, 2, 1}, {2, 1, 1, 4, 2, 1}, {1, 0, 0, 3, 2, 1}, {1, 0, 0, 3, 2, 2}, {2, 1, 1, 3, 4, 1}};
        for (int i = 0; i < texts.length; i++) {
            Check.tape(x, texts[i]);
            x.valley();
            for (int what = 0; what < 6; what++) {
                Check.eq("count(" + what + ") behind " + texts[i], x.count(what), wants[i][what]);
            }
        }
        Check.eq("no due is left", x.town(0, 8), 0);
        Check.eq("no bend is left", x.now(1), 0);
    }

    private static void lines(String text, int want) {
        SundialTreaty x = new SundialTreaty();
        Check.tape(x, text);
        Check.eq("valley() of " + Check.brief(text), x.valley(), want);
        Check.eq("fault() of " + Check.brief(text), x.fault(), 0);
        Check.eq("count(6) behind " + Check.brief(text), x.count(6), 0);
    }
}
