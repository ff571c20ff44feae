/** TOKENS and FAULTS, as 'Terms' tells them: a test for each sentence that names an edge. */
final class EdgeTextTest {
    private static final String SIGNS = ";<=>()";
    private static final String[] POOL = {"town", "fast", "slow", "term", "train", "limit", "change", "frost", "bend", "shade",
        "clear", "freeze", "day", "or", "and", "not", "right", "shaded", "breach", "ahead", "broken", "number", ";", "<", "=",
        ">", "(", ")", "7", "007", "a", "zz", "A", ".", ",", "-1", "abcdefgh", "1234", "a1", "1a", "\t", "\r", "\u0000", "\u00ff"};

    public static void main(String[] args) {
        Check.sentence("with blanks (32, 10) between them or not", EdgeTextTest::blanks);
        Check.sentence("WORDS: small letters, 1 to 7", EdgeTextTest::words);
        Check.sentence("NUMBERS: 1 to 3 digits", EdgeTextTest::numbers);
        Check.sentence("; < = > ( ) .", EdgeTextTest::signs);
        Check.sentence("A WORD, NUMBER goes on as long as small letters and digits do; what is not as told is no TOKEN",
                EdgeTextTest::goesOn);
        Check.sentence("FAULTS, the first along the text", EdgeTextTest::firstFault);
        Check.sentence("of one TOKEN the least", EdgeTextTest::leastFault);
        Check.sentence("1 no TOKEN, or one that can't come (at it", EdgeTextTest::cantCome);
        Check.sentence("the end: how many bytes there are", EdgeTextTest::theEnd);
        Check.sentence("the most bytes told, if there are more", EdgeTextTest::mostBytes);
        Check.sentence("and no FAULT is ahead", EdgeTextTest::faultAhead);
        Check.sentence("TOKENS that begin ahead of it are read whole", EdgeTextTest::readWhole);
        Check.sentence("2 a NUMBER that is not as told (at it)", EdgeTextTest::numberNotAsTold);
        Check.sentence("3 a NAME told twice, not told, or of another sort", EdgeTextTest::wrongNames);
        Check.sentence("two alike that must be unlike (at the second)", EdgeTextTest::alike);
        Check.sentence("what is told once told again (at the WORD)", EdgeTextTest::toldAgain);
        Check.sentence("4 one more than there may be of a sort", EdgeTextTest::oneMore);
        Check.sentence("a 41st LINE of a BOOK (at the LINE's first WORD)", EdgeTextTest::line41);
        Check.sentence("a 21st ONE", EdgeTextTest::one21);
        Check.sentence("a ninth within (at its first TOKEN)", EdgeTextTest::ninthWithin);
        Check.finish("EdgeTextTest");
    }

    private static boolean isLetter(int b) {
        return b >= 'a' && b <= 'z';
    }

    private static boolean isDigit(int b) {
        return b >= '0' && b <= '9';
    }

    private static void blanks() {
        for (int b = 0; b < 256; b++) {
            String text = "limit" + (char) b + "1;";
            if (b == 32 || b == 10) {
                Texts.VALLEY.good(text, 1);
            } else {
                Texts.VALLEY.fault(text, 1, isLetter(b) || isDigit(b) ? 0 : 5);
            }
        }
        Texts.VALLEY.good("limit 1;change 1;town d 2;", 3);
        Texts.VALLEY.good("\n limit \n1 \n\n; \n change  1\n;\n", 2);
        Texts.BOOK.good("freeze;shade b;day 3;", -1);
        Texts.BOOK.good("\nfreeze\n; shade\nb  ;\n\nday 3 ; ", -1);
        Texts.SENTENCE.good("(right)or(fast>1)", 4);
        Texts.SENTENCE.good(" ( right\n) or (\n\nfast > 1 ) \n", 4);
    }

    private static void words() {
        for (int b = 0; b < 256; b++) {
            String text = "town " + (char) b + " 1;";
            if (isLetter(b)) {
                Texts.VALLEY.good(text, 1);
            } else {
                Texts.VALLEY.fault(text, 1, b == 32 || b == 10 ? 7 : 5);
            }
        }
        for (int n = 1; n <= 30; n++) {
            String text = "town " + "h".repeat(n) + " 1;";
            if (n <= 7) {
                Texts.VALLEY.good(text, 1);
            } else {
                Texts.VALLEY.fault(text, 1, 5);
            }
        }
        // Names are like only if all letters are, the seventh too.
        Texts.VALLEY.good("town abcdefg 1;town abcdefh 1;town bbcdefg 1;town abcdef 1;town bcdefg 1;", 5);
        Texts.VALLEY.fault("town abcdefg 1;town abcdefg 1;", 3, 20);
    }

    private static void numbers() {
        for (int b = 0; b < 256; b++) {
            String text = "limit " + (char) b + ";";
            if (b >= '1' && b <= '9') {
                Texts.VALLEY.good(text, 1);
            } else if (b == '0') {
                Texts.VALLEY.fault(text, 2, 6);
            } else {
                Texts.VALLEY.fault(text, 1, b == 32 || b == 10 ? 7 : 6);
            }
        }
        String[] tens = {"10", "010"};
        for (String ten : tens) {
            Check.eq("limit " + ten, Texts.VALLEY.good("limit " + ten + ";", 1).count(3), 10);
        }
        for (int n = 4; n <= 12; n++) {
            Texts.VALLEY.fault("limit " + "0".repeat(n - 1) + "1;", 1, 6);
            Texts.VALLEY.fault("limit " + "1".repeat(n) + ";", 1, 6);
        }
    }

    private static void signs() {
        Texts.SENTENCE.good("fast<1", 1);
        Texts.SENTENCE.good("fast=1", 1);
        Texts.SENTENCE.good("fast>1", 1);
        Texts.SENTENCE.good("(right)", 2);
        Texts.SENTENCE.fault("fast . 1", 1, 5);
        Texts.SENTENCE.fault("fast >> 1", 1, 6);
        Texts.VALLEY.fault("limit 1.", 1, 7);
        Texts.VALLEY.fault("limit 1:", 1, 7);
        for (int i = 0; i < SIGNS.length(); i++) {
            // A sign ends a word or a number without a blank.
            Texts.VALLEY.fault("limit" + SIGNS.charAt(i), 1, 5);
            Texts.VALLEY.fault("limit 1" + SIGNS.charAt(i) + SIGNS.charAt(i), 1, SIGNS.charAt(i) == ';' ? 8 : 7);
        }
    }

    private static void goesOn() {
        Texts.VALLEY.fault("town h1 1;", 1, 5);
        Texts.VALLEY.fault("town 1h 1;", 1, 5);
        Texts.VALLEY.fault("town abcdefg1 1;", 1, 5);
        Texts.VALLEY.fault("town h 1h;", 1, 7);
        Texts.VALLEY.fault("town h 1fast 3;", 1, 7);
        Texts.VALLEY.fault("townh 1;", 1, 0);
        Texts.VALLEY.fault("town1 1;", 1, 0);
        Texts.VALLEY.fault("limit1;", 1, 0);
        Texts.VALLEY.fault("limit 1limit 2;", 1, 6);
        Texts.VALLEY.fault("limit 1Limit 2;", 1, 7);
        Texts.BOOK.fault("day1;", 1, 0);
        Texts.BOOK.fault("freezeday 1;", 1, 0);
        Texts.SENTENCE.fault("rightor right", 1, 0);
        Texts.SENTENCE.fault("fast > 1or right", 1, 7);
        Texts.SENTENCE.fault("not1 right", 1, 0);
    }

    private static void firstFault() {
        Texts.VALLEY.fault("town d 61;limit 0;?", 2, 7);
        Texts.VALLEY.fault("limit 0;town d 61;", 2, 6);
        Texts.VALLEY.fault("town d 1;town d 61;", 3, 14);
        Texts.VALLEY.fault("town d 1;term d 400 1 up 2;", 2, 16);
        Texts.VALLEY.fault(Texts.towns(7) + "town a 61 up 4;", 4, 63);
        Texts.VALLEY.fault("limit 1;limit 99;", 3, 8);
        Texts.BOOK.fault("day 0;shade z;?", 2, 4);
        Texts.BOOK.fault("shade z;day 0;", 3, 6);
        Texts.BOOK.fault("?;shade z;", 1, 0);
        Texts.SENTENCE.fault("ahead z or wrong", 3, 6);
        Texts.SENTENCE.fault("wrong or ahead z", 1, 0);
    }

    private static void leastFault() {
        // A told word is no name: that it is not told as a name, either, is the greater fault.
        Texts.VALLEY.fault("term fast 0 0 fast 1;", 1, 5);
        Texts.BOOK.fault("shade day;", 1, 6);
        Texts.SENTENCE.fault("ahead or", 1, 6);
        // No line, no one may begin so: that there is one too many is the greater fault.
        Texts.BOOK.fault("freeze;".repeat(40) + "limit 3;", 1, 280);
        Texts.BOOK.fault("freeze;".repeat(40) + ";", 1, 280);
        Texts.SENTENCE.fault("right or ".repeat(20) + "and", 1, 180);
        Texts.SENTENCE.fault("not ".repeat(8) + "or", 1, 32);
        // A number with four digits is no token, however large it may be.
        Texts.VALLEY.fault("limit 9999;", 1, 6);
        // The first of two alike may be not told: it is ahead.
        Texts.VALLEY.fault(Texts.towns(2) + "train k z z 0 1;", 3, 26);
    }

    /** What may stand in a place: L a line's word, N a name, # a number, W a way, E a way or ';', O a one, S a sign, Z 'and' or 'or'. */
    private static boolean mayCome(Texts kind, char place, String token) {
        boolean isSign = token.length() == 1 && SIGNS.contains(token);
        switch (place) {
            case 'L':
                return (kind == Texts.BOOK ? " bend shade clear freeze day " : " town term train limit change frost ").contains(" " + token + " ");
            case 'N':
                return token.equals("a") || token.equals("zz");
            case '#':
                return token.equals("7") || token.equals("007");
            case 'W':
                return token.equals("fast") || token.equals("slow");
            case 'E':
                return token.equals(";") || token.equals("fast") || token.equals("slow");
            case 'O':
                return token.equals("(") || " not right shaded breach ahead fast slow broken number ".contains(" " + token + " ");
            case 'S':
                return isSign && "<=>".contains(token);
            case 'Z':
                return token.equals("and") || token.equals("or");
            case ')':
                return token.equals(")") || token.equals("and") || token.equals("or");
            default:
                return token.equals(";");
        }
    }

    private static void cantCome(Texts kind, String ahead, String line, String places) {
        String[] tokens = line.split(" ");
        StringBuilder before = new StringBuilder(ahead);
        for (int i = 0; i < places.length(); i++) {
            for (String token : POOL) {
                if (!mayCome(kind, places.charAt(i), token)) {
                    kind.fault(before + token + " " + line, 1, before.length());
                }
            }
            if (i < tokens.length) {
                before.append(tokens[i]).append(' ');
            }
        }
    }

    private static void cantCome() {
        String two = Texts.towns(2);
        cantCome(Texts.VALLEY, "", "town d 1 ;", "LN#E");
        cantCome(Texts.VALLEY, "", "town d 1 slow 2 ;", "LN#E#;L");
        cantCome(Texts.VALLEY, two, "term a 0 9 slow 3 ;", "LN##W#;L");
        cantCome(Texts.VALLEY, two, "train k a b 5 6 ;", "LNNN##;L");
        cantCome(Texts.VALLEY, two, "limit 3 ;", "L#;L");
        cantCome(Texts.VALLEY, two, "change 3 ;", "L#;L");
        cantCome(Texts.VALLEY, two, "frost 3 ;", "L#;L");
        cantCome(Texts.BOOK, "freeze;", "bend a fast 1 ;", "LNW#;L");
        cantCome(Texts.BOOK, "", "shade a ;", "LN;L");
        cantCome(Texts.BOOK, "", "clear a ;", "LN;L");
        cantCome(Texts.BOOK, "", "freeze ;", "L;L");
        cantCome(Texts.BOOK, "", "day 7 ;", "L#;L");
        cantCome(Texts.SENTENCE, "", "right and not shaded or breach", "OZOOZOZ");
        cantCome(Texts.SENTENCE, "", "ahead a or fast > 1 or slow < 1", "ONZOS#ZOS#Z");
        cantCome(Texts.SENTENCE, "", "broken = 1 and number = 1", "OS#ZOS#Z");
        cantCome(Texts.SENTENCE, "", "( ( right ) and shaded )", "OOO))O)Z");
    }

    /** Cut behind each of its tokens, with blanks behind it or not; where Z may come next, it is whole. */
    private static void cut(Texts kind, String line, String places) {
        String[] tokens = line.split(" ");
        StringBuilder before = new StringBuilder();
        for (int i = 0; i < tokens.length; i++) {
            if (places.charAt(i) != 'Z' && (i > 0 || kind == Texts.SENTENCE)) {
                kind.fault(before.toString(), 1, before.length());
                kind.fault(before + " \n  ", 1, before.length() + 4);
            }
            before.append(i > 0 ? " " : "").append(tokens[i]);
        }
    }

    private static void theEnd() {
        cut(Texts.VALLEY, "town d 1 slow 2 ;", "LN#E#;");
        cut(Texts.VALLEY, "limit 3 ;", "L#;");
        cut(Texts.BOOK, "bend a fast 1 ;", "LNW#;");
        cut(Texts.BOOK, "freeze ;", "L;");
        cut(Texts.BOOK, "day 7 ;", "L#;");
        cut(Texts.SENTENCE, "ahead a or fast > 1 and not ( right )", "ONZOS#ZOOO)Z");
        Texts.VALLEY.fault("town d 1;term d 3 4", 1, 19);
        Texts.VALLEY.fault("town d 1;town e 2;train k d e 5", 1, 31);
        // What end() took off the tape is behind its end.
        SundialTreaty x = new SundialTreaty();
        Check.tape(x, "limit 3;change 4;");
        x.end(7);
        Check.eq("valley() of a tape that was cut", x.valley(), -8);
        // The most bytes are no more than the most: the end is the end.
        Texts.VALLEY.fault("limit 3" + Check.blanks(893), 1, 900);
        Texts.BOOK.fault("freeze" + Check.blanks(394), 1, 400);
        Texts.SENTENCE.fault("not" + Check.blanks(197), 1, 200);
    }

    private static void mostBytes() {
        for (Texts kind : Texts.values()) {
            int blanks = kind.most - kind.good.length();
            kind.good(kind.good + Check.blanks(blanks), kind.goodAnswer);
            kind.good(Check.blanks(blanks) + kind.good, kind.goodAnswer);
            kind.fault(kind.good + Check.blanks(blanks + 1), 1, kind.most);
            kind.fault(kind.good + "\n".repeat(blanks + 1), 1, kind.most);
            kind.fault(kind.good + Check.blanks(940 - kind.good.length()), 1, kind.most);
            kind.fault(Check.blanks(kind.most + 1), 1, kind.most);
            kind.fault(Check.blanks(kind.most) + kind.good, 1, kind.most);
            kind.fault(kind.good + Check.blanks(blanks) + "?", 1, kind.most);
            kind.fault(kind.good + Check.blanks(blanks - 1) + "?", 1, kind.most - 1);
        }
        Texts.VALLEY.good(Check.blanks(900), 0);
        Texts.BOOK.good(Check.blanks(400), -1);
    }

    private static void faultAhead() {
        for (Texts kind : Texts.values()) {
            kind.fault("?" + Check.blanks(kind.most), 1, 0);
            kind.fault(kind.good + "?" + Check.blanks(kind.most), 1, kind.good.length());
        }
        Texts.VALLEY.fault("limit 11;" + Check.blanks(931), 2, 6);
        Texts.VALLEY.fault("limit 1;" + Check.blanks(891) + "limit 1;", 3, 899);
        Texts.BOOK.fault("shade z;" + Check.blanks(500), 3, 6);
        Texts.BOOK.fault("freeze;".repeat(40) + Check.blanks(119) + "freeze;", 4, 399);
        Texts.SENTENCE.fault("not ".repeat(8) + "right" + Check.blanks(500), 4, 32);
    }

    private static void readWhole() {
        // What begins on the last byte goes on behind it: 61 is too large, 6 would not be.
        Texts.VALLEY.fault("town d" + Check.blanks(893) + "61;", 2, 899);
        Texts.VALLEY.fault("town d" + Check.blanks(893) + "60;", 1, 900);
        Texts.VALLEY.fault("town d" + Check.blanks(893) + "1111;", 1, 899);
        Texts.VALLEY.fault("town" + Check.blanks(895) + "hijklmno 1;", 1, 899);
        Texts.VALLEY.fault("town ab 1;town" + Check.blanks(885) + "ab 1;", 3, 899);
        Texts.VALLEY.fault("town d" + Check.blanks(894) + "61;", 1, 900);
        Texts.BOOK.fault("day" + Check.blanks(396) + "61;", 2, 399);
        Texts.BOOK.fault("day" + Check.blanks(396) + "60;", 1, 400);
        Texts.BOOK.fault("shade" + Check.blanks(394) + "az;", 3, 399);
        Texts.BOOK.fault("day" + Check.blanks(397) + "61;", 1, 400);
        Texts.SENTENCE.fault("ahead" + Check.blanks(194) + "az", 3, 199);
        Texts.SENTENCE.fault("right or" + Check.blanks(191) + "shaded", 1, 200);
        Texts.SENTENCE.fault("right or" + Check.blanks(191) + "shadedx", 1, 199);
        Texts.SENTENCE.fault("ahead" + Check.blanks(195) + "az", 1, 200);
    }

    private static void numberNotAsTold() {
        Texts.VALLEY.fault("town d 061;", 2, 7);
        Texts.VALLEY.fault("town d 1 fast\n\n000;", 2, 15);
        Texts.VALLEY.fault("town d 1;term d 5 \n4 fast 1;", 2, 19);
        Texts.VALLEY.fault("limit      0;", 2, 11);
        Texts.BOOK.fault("day \n 0;", 2, 6);
        Texts.BOOK.fault("bend a slow 11;", 2, 12);
        // A sentence takes any number.
        Texts.SENTENCE.good("fast > 999 or fast > 0 or fast > 000", 3);
    }

    private static void wrongNames() {
        String three = Texts.towns(2) + "train k a b 0 1;";
        Texts.VALLEY.fault(three + "town a 1;", 3, 39);
        Texts.VALLEY.fault(three + "town k 1;", 3, 39);
        Texts.VALLEY.fault(three + "train k a b 0 1;", 3, 40);
        Texts.VALLEY.fault(three + "train b a b 0 1;", 3, 40);
        Texts.VALLEY.fault(three + "train l l b 0 1;", 3, 42);
        Texts.VALLEY.fault(three + "train l k b 0 1;", 3, 42);
        Texts.VALLEY.fault(three + "train l a k 0 1;", 3, 44);
        Texts.VALLEY.fault(three + "train l a z 0 1;", 3, 44);
        Texts.VALLEY.fault(three + "term z 0 0 fast 1;", 3, 39);
        Texts.VALLEY.fault(three + "term k 0 0 fast 1;", 3, 39);
        // Names of the valley of now are not told in a new one.
        Texts.VALLEY.fault("term a 0 0 fast 1;town a 1;", 3, 5);
        Texts.VALLEY.good("town k 1;town z 1;train a k z 0 1;", 3);
        String[] books = {"bend z fast 1;", "bend k fast 1;"};
        for (String text : books) {
            Texts.BOOK.fault(text, 3, 5);
        }
        String[] others = {"shade z;", "shade k;", "clear z;", "clear k;"};
        for (String text : others) {
            Texts.BOOK.fault(text, 3, 6);
        }
        Texts.SENTENCE.fault("ahead z", 3, 6);
        Texts.SENTENCE.fault("ahead k", 3, 6);
    }

    private static void alike() {
        Texts.VALLEY.fault(Texts.towns(2) + "train k a a 0 1;", 3, 28);
        Texts.VALLEY.fault(Texts.towns(2) + "train k b b 0 1;", 3, 28);
        Texts.VALLEY.good(Texts.towns(2) + "train k b a 0 1;train l a b 0 1;", 4);
    }

    private static void toldAgain() {
        Texts.VALLEY.fault("limit 3;limit 3;", 3, 8);
        Texts.VALLEY.fault("change 3;change 4;", 3, 9);
        Texts.VALLEY.fault("frost 3;\nfrost 3;", 3, 9);
        Texts.VALLEY.fault("limit 3;change 3;frost 3;change ?", 3, 25);
        // Told once in each valley, not once for all of them.
        SundialTreaty x = Check.valley("limit 3;change 4;frost 5;");
        Check.eq("the same again as a new valley", Texts.VALLEY.read(x, "limit 4;change 5;frost 6;"), 3);
    }

    private static void oneMore() {
        Texts.VALLEY.good(Texts.towns(7), 7);
        Texts.VALLEY.fault(Texts.towns(7) + "\ntown h 1;", 4, 64);
        Texts.VALLEY.fault(Texts.towns(7) + "town", 4, 63);
        Texts.VALLEY.good("town a 1;" + Texts.terms(12), 13);
        Texts.VALLEY.fault("town a 1;" + Texts.terms(13), 4, 9 + 12 * 18);
        Texts.VALLEY.fault("town a 1;" + Texts.terms(12) + "term z", 4, 9 + 12 * 18);
        Texts.VALLEY.good(Texts.towns(2) + Texts.trains(8), 10);
        Texts.VALLEY.fault(Texts.towns(2) + Texts.trains(9), 4, 18 + 8 * 17);
        Texts.VALLEY.fault(Texts.towns(2) + Texts.trains(8) + "train fast", 4, 18 + 8 * 17);
    }

    private static void line41() {
        Texts.BOOK.good("freeze;".repeat(40), -1);
        String[] lines = {"freeze;", "day 99;", "bend", "shade fast;", "clear k;"};
        for (String line : lines) {
            Texts.BOOK.fault("freeze;".repeat(40) + line, 4, 280);
            Texts.BOOK.fault("freeze;".repeat(40) + " \n" + line, 4, 282);
        }
        Texts.BOOK.fault("freeze;".repeat(50), 4, 280);
    }

    private static void one21() {
        Texts.SENTENCE.good("right or ".repeat(19) + "right", 20);
        String[] ones = {"right", "shaded", "breach", "ahead z", "fast", "slow", "broken", "number", "not", "("};
        for (String one : ones) {
            Texts.SENTENCE.fault("right or ".repeat(20) + one, 4, 180);
        }
        // Each not, bracket and other one counts.
        Texts.SENTENCE.good("not right or ".repeat(9) + "not right", 20);
        Texts.SENTENCE.fault("not right or ".repeat(10) + "right", 4, 130);
        Texts.SENTENCE.good("(right)or".repeat(9) + "(right)", 20);
        Texts.SENTENCE.fault("(right)or".repeat(10) + "(right)", 4, 90);
        Texts.SENTENCE.fault("right or ".repeat(19) + "not right", 4, 175);
        Texts.SENTENCE.fault("right or ".repeat(19) + "(right)", 4, 172);
        Texts.SENTENCE.fault("(right)and".repeat(10) + "(right)", 4, 100);
        // A twentieth 'and' can come; a 21st one behind it would begin where the text must be over.
        Texts.SENTENCE.fault("right and ".repeat(19) + "right and", 1, 199);
        Texts.SENTENCE.fault("right and ".repeat(20), 1, 200);
        Texts.SENTENCE.fault("right and ".repeat(20) + "right", 1, 200);
    }

    private static void ninthWithin() {
        Texts.SENTENCE.good("not ".repeat(7) + "right", 8);
        Texts.SENTENCE.good("(".repeat(7) + "right" + ")".repeat(7), 8);
        Texts.SENTENCE.good("not (".repeat(3) + "not right" + ")".repeat(3), 8);
        String[] ones = {"right", "shaded", "breach", "ahead z", "fast", "slow", "broken", "number", "not", "("};
        for (String one : ones) {
            Texts.SENTENCE.fault("not ".repeat(8) + one, 4, 32);
            Texts.SENTENCE.fault("(".repeat(8) + one, 4, 8);
            Texts.SENTENCE.fault("not (".repeat(4) + one, 4, 20);
            Texts.SENTENCE.fault("right and " + "(right or ".repeat(7) + "(" + one, 4, 81);
        }
        // Ones beside one another are not within one another.
        Texts.SENTENCE.good("not ".repeat(7) + "right or " + "not ".repeat(7) + "right", 16);
        Texts.SENTENCE.good("(".repeat(6) + "right or right and right" + ")".repeat(6) + "or right", 10);
        Texts.SENTENCE.good("(".repeat(7) + "right and right" + ")".repeat(7), 9);
    }
}
