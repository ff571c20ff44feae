/** What 'Terms' tells of a SENTENCE, promises 38 and 39: a test for each sentence that names an edge. */
final class EdgeSaidTest {
    private static final int LEAST = Integer.MIN_VALUE;
    private static final int MOST = Integer.MAX_VALUE;

    public static void main(String[] args) {
        Check.sentence("A SENTENCE is a text of at most 200 bytes: COND", EdgeSaidTest::bytes);
        Check.sentence("COND: ALL { 'or' ALL }. ALL: ONE { 'and' ONE }.", EdgeSaidTest::orAnd);
        Check.sentence("ONE: 'not' ONE | ( COND )", EdgeSaidTest::notAndBrackets);
        Check.sentence("'right' (its BEND is 0)", EdgeSaidTest::right);
        Check.sentence("'shaded' | 'breach' (it is in BREACH)", EdgeSaidTest::shadedAndBreach);
        Check.sentence("'ahead' TOWN (its dial shows noon sooner than that one's)", EdgeSaidTest::ahead);
        Check.sentence("by how many minutes it is so, else 0", EdgeSaidTest::fastAndSlow);
        Check.sentence("its BREACHES so far; its number", EdgeSaidTest::brokenAndNumber);
        Check.sentence("SIGN: < = >", EdgeSaidTest::signs);
        Check.sentence("20 ONES, 8 within one another", EdgeSaidTest::full);
        Check.sentence("It is said of TOWNS.", EdgeSaidTest::ofTowns);
        Check.sentence("The tape is the SENTENCE now: how many ONES (each not, bracket and other one)", EdgeSaidTest::ones);
        Check.sentence("-1 less the place of a FAULT: it stays", EdgeSaidTest::faultStays);
        Check.sentence("TOWNS of which it may be said: how many (k NONE), or the k-th", EdgeSaidTest::howMany);
        Check.sentence("NONE: there is no SENTENCE, none such.", EdgeSaidTest::noneSuch);
        Check.finish("EdgeSaidTest");
    }

    private static void said(SundialTreaty x, String text, int... towns) {
        Check.tape(x, text);
        Check.yes("sentence() of " + Check.brief(text), x.sentence() > 0);
        Check.eq("said(-1) of " + Check.brief(text), x.said(-1), towns.length);
        for (int k = 0; k < towns.length; k++) {
            Check.eq("said(" + k + ") of " + Check.brief(text), x.said(k), towns[k]);
        }
        Check.eq("said behind them of " + Check.brief(text), x.said(towns.length), -1);
    }

    private static SundialTreaty seven() {
        return Check.valley("town a 0;town b 1;town c 2;town d 3;town e 4;town f 5;town g 6;");
    }

    private static void bytes() {
        SundialTreaty x = seven();
        said(x, "number < 1" + Check.blanks(190), 0);
        said(x, Check.blanks(190) + "number < 2", 0, 1);
        Texts.SENTENCE.fault("number < 1" + Check.blanks(191), 1, 200);
        Texts.SENTENCE.fault("", 1, 0);
        Texts.SENTENCE.fault(" \n ", 1, 3);
        // One that is full of tokens.
        said(x, "(number=1)or".repeat(9) + "(number=6)" + Check.blanks(82), 1, 6);
    }

    private static void orAnd() {
        SundialTreaty x = seven();
        said(x, "number = 1 or number = 3 and number = 4", 1);
        said(x, "number = 1 and number = 3 or number = 4", 4);
        said(x, "number = 1 or number < 5 and number > 2 or number = 6", 1, 3, 4, 6);
        said(x, "number > 0 and number > 1 and number > 5", 6);
        said(x, "number = 0 or number = 2 or number = 6", 0, 2, 6);
        Texts.SENTENCE.fault("right or", 1, 8);
        Texts.SENTENCE.fault("right and", 1, 9);
        Texts.SENTENCE.fault("or right", 1, 0);
        Texts.SENTENCE.fault("right shaded", 1, 6);
    }

    private static void notAndBrackets() {
        SundialTreaty x = seven();
        said(x, "not number = 1 and number < 3", 0, 2);
        said(x, "not (number = 1 and number < 3)", 0, 2, 3, 4, 5, 6);
        said(x, "(number = 1 or number = 3) and number > 1", 3);
        said(x, "not not number = 1", 1);
        said(x, "not not not number < 5", 5, 6);
        said(x, "not (number < 2 or not (number < 5 and not (number = 3)))", 2, 4);
        Texts.SENTENCE.fault("()", 1, 1);
        Texts.SENTENCE.fault("(right", 1, 6);
        Texts.SENTENCE.fault("right)", 1, 5);
        Texts.SENTENCE.fault("((right)", 1, 8);
        Texts.SENTENCE.fault("not", 1, 3);
    }

    private static void right() {
        SundialTreaty x = Check.valley("town a 0 fast 1;town b 0 slow 1;town c 0;");
        said(x, "right", 2);
        x.freeze();
        Check.eq("said(-1) behind frost", x.said(-1), 3);
        x.bend(2, 1);
        Check.eq("said(-1) behind a bend", x.said(-1), 2);
        Check.eq("said(1)", x.said(1), 1);
    }

    private static void shadedAndBreach() {
        SundialTreaty x = Check.valley("town a 0;town b 0;town c 0;term b 0 4 fast 1;term c 4 399 fast 1;");
        said(x, "shaded");
        said(x, "breach", 1);
        x.shade(1);
        said(x, "shaded", 1);
        said(x, "breach and shaded", 1);
        Check.toDay(x, 4);
        said(x, "breach", 1, 2);
        x.days(1);
        said(x, "breach", 2);
        Check.toDay(x, 400);
        said(x, "breach");
        said(x, "shaded", 1);
    }

    private static void ahead() {
        SundialTreaty x = Check.valley("town a 10;town b 11 fast 1;town c 11;town d 9;");
        // Noons by dial: 10, 10, 11, 9.
        said(x, "ahead a", 3);
        said(x, "ahead b", 3);
        said(x, "ahead c", 0, 1, 3);
        said(x, "ahead d");
        x.shade(0);
        x.shade(3);
        said(x, "ahead c", 0, 1, 3);
        x.bend(2, 2);
        Check.eq("said(-1) of the dials of now", x.said(-1), 0);
        Check.eq("below 0", Check.valley("town a 0;town b 0 fast 30;").town(1, 6), -30);
        said(Check.valley("town a 0;town b 0 fast 30;"), "ahead a", 1);
    }

    private static void fastAndSlow() {
        SundialTreaty x = Check.valley("town a 0 fast 30;town b 0 slow 30;town c 0;town d 0 fast 1;town e 0 slow 1;");
        said(x, "fast = 30", 0);
        said(x, "fast > 29", 0);
        said(x, "fast > 30");
        said(x, "fast = 0", 1, 2, 4);
        said(x, "fast < 1", 1, 2, 4);
        said(x, "fast < 0");
        said(x, "fast > 0", 0, 3);
        said(x, "slow = 30", 1);
        said(x, "slow > 29", 1);
        said(x, "slow > 30");
        said(x, "slow = 0", 0, 2, 3);
        said(x, "slow < 1", 0, 2, 3);
        said(x, "slow < 0");
        said(x, "slow > 0", 1, 4);
        said(x, "fast < 999 and slow < 999", 0, 1, 2, 3, 4);
    }

    private static void brokenAndNumber() {
        SundialTreaty x = Check.valley("town a 0;town b 0;town c 0;term a 0 399 fast 1;term b 0 0 fast 1;");
        said(x, "broken = 0", 0, 1, 2);
        x.days(1);
        said(x, "broken = 1", 0, 1);
        Check.toDay(x, 400);
        said(x, "broken = 400", 0);
        said(x, "broken > 399", 0);
        said(x, "broken < 1", 2);
        SundialTreaty y = seven();
        for (int t = 0; t < 7; t++) {
            said(y, "number = " + t, t);
        }
        said(y, "number = 7");
        said(y, "number < 0");
        said(y, "number > 6");
        said(y, "number > 5", 6);
    }

    private static void signs() {
        SundialTreaty x = seven();
        said(x, "number < 3", 0, 1, 2);
        said(x, "number = 3", 3);
        said(x, "number > 3", 4, 5, 6);
        String[] others = {";", "(", ")", "3", "or", "is", "!", "<<"};
        for (String sign : others) {
            Texts.SENTENCE.fault("number " + sign + " 3", 1, sign.equals("<<") ? 8 : 7);
        }
        Texts.SENTENCE.fault("number 3", 1, 7);
        Texts.SENTENCE.fault("number", 1, 6);
        Texts.SENTENCE.fault("number =", 1, 8);
    }

    private static void full() {
        SundialTreaty x = seven();
        said(x, "number=9 or ".repeat(13) + "number=6", 6);
        said(x, "right and ".repeat(19) + "shaded");
        said(x, "shaded or ".repeat(19) + "right", 0, 1, 2, 3, 4, 5, 6);
        said(x, "not ".repeat(7) + "number=2", 0, 1, 3, 4, 5, 6);
        said(x, "(number=9 or ".repeat(7) + "number=2" + ")".repeat(7), 2);
        said(x, "not(".repeat(3) + "not number=2" + ")".repeat(3), 2);
    }

    private static void ofTowns() {
        SundialTreaty x = seven();
        said(x, "right", 0, 1, 2, 3, 4, 5, 6);
        SundialTreaty y = new SundialTreaty();
        said(y, "right");
        said(y, "not right");
        Check.eq("said(0) without towns", y.said(0), -1);
    }

    private static void ones() {
        String[] texts = {"right", "not right", "(right)", "not (right)", "right or shaded and breach", "ahead a", "fast > 1",
            "not not (not ((right)))or(number=1)", "right or ".repeat(19) + "right", "not ".repeat(7) + "right"};
        int[] ones = {1, 2, 2, 3, 3, 1, 1, 9, 20, 8};
        SundialTreaty x = seven();
        for (int i = 0; i < texts.length; i++) {
            Check.tape(x, texts[i]);
            Check.eq("sentence() of " + Check.brief(texts[i]), x.sentence(), ones[i]);
            Check.eq("the tape is empty", x.count(6), 0);
        }
        // The latest one is the sentence now.
        Check.tape(x, "number = 5");
        x.sentence();
        Check.eq("said(0)", x.said(0), 5);
    }

    private static void faultStays() {
        SundialTreaty x = seven();
        said(x, "number = 5", 5);
        String[] texts = {"", "wrong", "number = 4 or", "ahead z", "right or ".repeat(20) + "right", "not ".repeat(8) + "right",
            "number = 4" + Check.blanks(200)};
        int[] answers = {-1, -1, -14, -7, -181, -33, -201};
        for (int i = 0; i < texts.length; i++) {
            Check.tape(x, texts[i]);
            Check.eq("sentence() of " + Check.brief(texts[i]), x.sentence(), answers[i]);
            Check.eq("the tape is empty", x.count(6), 0);
            Check.eq("said(-1) stays", x.said(-1), 1);
            Check.eq("said(0) stays", x.said(0), 5);
        }
        SundialTreaty y = seven();
        Check.tape(y, "right or");
        y.sentence();
        Check.eq("a fault ahead of any: there is no sentence", y.said(-1), -1);
    }

    private static void howMany() {
        SundialTreaty x = seven();
        said(x, "number = 0 or number = 3 or number = 6", 0, 3, 6);
        said(x, "number > 6");
        Check.eq("how many, if of none", x.said(-1), 0);
        said(x, "number < 7", 0, 1, 2, 3, 4, 5, 6);
        Check.eq("the last one", x.said(6), 6);
    }

    private static void noneSuch() {
        SundialTreaty x = seven();
        int[] any = {-1, 0, 1, -2, 7, LEAST, MOST};
        for (int k : any) {
            Check.eq("said(" + k + ") without a sentence", x.said(k), -1);
        }
        said(x, "number < 7", 0, 1, 2, 3, 4, 5, 6);
        int[] wrong = {-2, 7, 8, LEAST, MOST};
        for (int k : wrong) {
            Check.eqAndStays("said(" + k + ")", x, () -> x.said(k), -1);
        }
        said(x, "number = 4", 4);
        Check.eq("said(1) of one", x.said(1), -1);
        Check.eq("said(4) of one", x.said(4), -1);
        Texts.VALLEY.read(x, "town a 1;");
        Check.eq("said(-1) in a new valley", x.said(-1), -1);
        Check.eq("said(0) in a new valley", x.said(0), -1);
    }
}
