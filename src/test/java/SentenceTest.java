/** Promises 38, 39 and 5: sentences and what may be said of which town. */
final class SentenceTest {
    private static final String TEXT = "town a 20 fast 5;town b 30 slow 4;town c 26;town d 15;"
            + "term a 0 399 fast 4;term c 0 399 fast 1;train k a b 0 1;";

    public static void main(String[] args) {
        plainOnes();
        joined();
        counts();
        faults();
        within();
        tooLong();
        oneBehindTheOther();
        staysAndGoes();
        Check.finish("SentenceTest");
    }

    private static SundialTreaty four() {
        SundialTreaty x = Check.valley(TEXT);
        x.shade(2);
        x.days(2);
        return x;
    }

    /** The sentence must hold ones and may be said of just these towns. */
    private static void said(String text, int ones, int... towns) {
        SundialTreaty x = four();
        Check.tape(x, text);
        Check.eq("sentence() of " + Check.brief(text), x.sentence(), ones);
        Check.eq("fault() of " + Check.brief(text), x.fault(), 0);
        Check.eq("the tape behind " + Check.brief(text), x.count(6), 0);
        Check.eq("said(-1) of " + Check.brief(text), x.said(-1), towns.length);
        for (int k = 0; k < towns.length; k++) {
            Check.eq("said(" + k + ") of " + Check.brief(text), x.said(k), towns[k]);
        }
        Check.eq("said behind them of " + Check.brief(text), x.said(towns.length), -1);
        Check.eq("said(-2) of " + Check.brief(text), x.said(-2), -1);
        Check.eq("said(7) of " + Check.brief(text), x.said(7), -1);
    }

    private static void plainOnes() {
        said("right", 1, 2, 3);
        said("shaded", 1, 2);
        said("breach", 1, 0, 2);
        // Noons by dial: 15, 34, 26, 15.
        said("ahead a", 1);
        said("ahead b", 1, 0, 2, 3);
        said("ahead c", 1, 0, 3);
        said("ahead d", 1);
        said("fast > 4", 1, 0);
        said("fast>5", 1);
        said("fast = 5", 1, 0);
        said("fast = 0", 1, 1, 2, 3);
        said("fast < 5", 1, 1, 2, 3);
        said("fast < 0", 1);
        said("slow > 3", 1, 1);
        said("slow = 4", 1, 1);
        said("slow < 4", 1, 0, 2, 3);
        said("slow = 0", 1, 0, 2, 3);
        said("slow > 0", 1, 1);
        said("fast > 0", 1, 0);
        said("broken = 2", 1, 0);
        said("broken > 1", 1, 0);
        said("broken = 000", 1, 1, 2, 3);
        said("number > 1", 1, 2, 3);
        said("number < 2", 1, 0, 1);
        said("number = 3", 1, 3);
        said("number < 999", 1, 0, 1, 2, 3);
    }

    private static void joined() {
        said("fast > 4 or slow > 3", 2, 0, 1);
        said("ahead b and right", 2, 2, 3);
        said("number = 0 or number = 1 and right", 3, 0);
        said("right and number = 1 or number = 0", 3, 0);
        said("(number = 0 or number = 1) and right", 4);
        said("right and (number = 3 or number = 1)", 4, 3);
        said("not right", 2, 0, 1);
        said("not right and shaded", 3);
        said("not (right and shaded)", 4, 0, 1, 3);
        said("not not right", 3, 2, 3);
        said("not number = 0 and not number = 1 or number = 0", 5, 0, 2, 3);
        said("number = 3 or right and shaded or number = 0", 4, 0, 2, 3);
        said("not not (not ((right)))or(number=1)", 9, 0, 1);
        said("\n(\nright\n)\n", 2, 2, 3);
    }

    private static void counts() {
        said(repeat("right", " and ", 20), 20, 2, 3);
        said(repeat("right", " or ", 19) + " or number=0", 20, 0, 2, 3);
        said(repeat("not right", " and ", 10), 20, 0, 1);
    }

    private static String repeat(String one, String between, int n) {
        return (one + between).repeat(n - 1) + one;
    }

    private static void fault(String text, int kind, int place) {
        SundialTreaty x = four();
        Check.tape(x, "shaded");
        x.sentence();
        Check.tape(x, text);
        Check.eq("sentence() of " + Check.brief(text), x.sentence(), -1 - place);
        Check.eq("fault() of " + Check.brief(text), x.fault(), kind);
        Check.eq("the tape behind " + Check.brief(text), x.count(6), 0);
        Check.eq("the sentence stays by " + Check.brief(text), x.said(0), 2);
    }

    private static void faults() {
        fault("", 1, 0);
        fault("  ", 1, 2);
        fault("wrong", 1, 0);
        fault("a", 1, 0);
        fault("1", 1, 0);
        fault("right;", 1, 5);
        fault("right right", 1, 6);
        fault("right and", 1, 9);
        fault("right or or right", 1, 9);
        fault("and right", 1, 0);
        fault("not", 1, 3);
        fault("not and", 1, 4);
        fault("(right", 1, 6);
        fault("(right;", 1, 6);
        fault("right)", 1, 5);
        fault("()", 1, 1);
        fault("ahead", 1, 5);
        fault("ahead right", 1, 6);
        fault("ahead town", 1, 6);
        fault("ahead 1", 1, 6);
        fault("ahead e", 3, 6);
        fault("ahead k", 3, 6);
        fault("fast", 1, 4);
        fault("fast 3", 1, 5);
        fault("fast >", 1, 6);
        fault("fast > a", 1, 7);
        fault("fast > 1000", 1, 7);
        fault("fast >= 1", 1, 6);
        fault("fast ; 1", 1, 5);
        fault("fast ( 1", 1, 5);
        fault("number = -1", 1, 9);
        fault("broken ! 1", 1, 7);
        fault("town = 1", 1, 0);
        fault("right & shaded", 1, 6);
    }

    private static void within() {
        said("not ".repeat(7) + "right", 8, 0, 1);
        fault("not ".repeat(8) + "right", 4, 32);
        fault("not ".repeat(8) + "wrong", 1, 32);
        fault("not ".repeat(8) + ")", 1, 32);
        fault("not ".repeat(8), 1, 32);
        said("(".repeat(7) + "right" + ")".repeat(7), 8, 2, 3);
        fault("(".repeat(8) + "right" + ")".repeat(8), 4, 8);
        fault("(".repeat(9) + "right", 4, 8);
        said("((((((right)))))) and not not not not not not not shaded", 15, 3);
        fault("(not ((not (((not right)))))) or right", 4, 14);
        fault("not (not (not (not (right and number < 9", 4, 20);
        fault(repeat("right", " or ", 20) + " or right", 4, 180);
        fault(repeat("right", " or ", 20) + " or wrong", 1, 180);
        fault(repeat("right", " or ", 20) + " or (ah", 4, 180);
        fault(repeat("right", " or ", 20) + " or", 1, 179);
        fault(repeat("not right", " and ", 10) + " and fast > 1", 4, 140);
        fault(repeat("right", " or ", 19) + " or not right", 4, 175);
    }

    private static void tooLong() {
        said("right" + Check.blanks(195), 1, 2, 3);
        fault("right" + Check.blanks(196), 1, 200);
        fault("right or" + Check.blanks(191) + "zz", 1, 199);
        fault("right or" + Check.blanks(191) + "shaded", 1, 200);
        fault("right or" + Check.blanks(192) + "zz", 1, 200);
        fault("ahead" + Check.blanks(194) + "zz", 3, 199);
        fault("ahead" + Check.blanks(195) + "zz", 1, 200);
        fault("right or" + Check.blanks(191) + "shadedby", 1, 199);
    }

    private static void oneBehindTheOther() {
        SundialTreaty x = four();
        String[] texts = {"not (right or number = 1)", "number = 2 or number = 1", "right and wrong", "not right", "number < 3"};
        int[] ones = {4, 2, -11, 2, 1};
        int[] many = {1, 2, 2, 2, 3};
        for (int i = 0; i < texts.length; i++) {
            Check.tape(x, texts[i]);
            Check.eq("sentence() of " + texts[i], x.sentence(), ones[i]);
            Check.eq("said(-1) of " + texts[i], x.said(-1), many[i]);
        }
        for (int i = 0; i < 100; i++) {
            Check.tape(x, "number = " + i % 4 + " or number = 9");
            Check.eq("sentence " + i, x.sentence(), 2);
            Check.eq("said(0) of sentence " + i, x.said(0), i % 4);
        }
    }

    private static void staysAndGoes() {
        SundialTreaty x = four();
        Check.eq("said(-1) without one", x.said(-1), -1);
        Check.eq("said(0) without one", x.said(0), -1);
        Check.tape(x, "right");
        x.sentence();
        Check.eq("said(-1)", x.said(-1), 2);
        x.bend(3, 1);
        Check.eq("said(-1) of how all is now", x.said(-1), 1);
        x.undo();
        Check.eq("said(-1) when undone", x.said(-1), 2);
        Check.tape(x, "town z 1;");
        x.valley();
        Check.eq("said(-1) in a new valley", x.said(-1), -1);
        SundialTreaty y = new SundialTreaty();
        Check.tape(y, "right");
        Check.eq("sentence() without towns", y.sentence(), 1);
        Check.eq("said(-1) without towns", y.said(-1), 0);
        Check.eq("said(0) without towns", y.said(0), -1);
    }
}
