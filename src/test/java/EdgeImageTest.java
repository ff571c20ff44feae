/** Promises 40 and 41: a test for each sentence that names an edge. */
final class EdgeImageTest {
    private static final int LEAST = Integer.MIN_VALUE;
    private static final int MOST = Integer.MAX_VALUE;
    private static final int[] NO_PLACE = {-1, 2, 3, LEAST, MOST};

    public static void main(String[] args) {
        Check.sentence("VALLEY, all that is so and the SENTENCE are kept in place k (0, 1): true", EdgeImageTest::kept);
        Check.sentence("VALLEY, all that is so and the SENTENCE", EdgeImageTest::allParts);
        Check.sentence("are kept in place k (0, 1): true; false: no such one.", EdgeImageTest::noPlace);
        Check.sentence("They are as kept in place k", EdgeImageTest::asKept);
        Check.sentence("(the tape, and what other calls told last, stays", EdgeImageTest::toldLastStays);
        Check.sentence("nothing can be undone)", EdgeImageTest::nothingUndone);
        Check.sentence("false: no such one, or nothing is kept there.", EdgeImageTest::nothingKept);
        Check.finish("EdgeImageTest");
    }

    private static SundialTreaty busy() {
        SundialTreaty x = Check.valley(Texts.HOME);
        Texts.SENTENCE.read(x, "not right");
        x.bend(0, 2);
        x.shade(1);
        x.days(7);
        x.freeze();
        x.bend(2, -1);
        return x;
    }

    /** Unlike in all that is told, but of the same size: so each part of them must be kept. */
    private static final String[] VALLEYS = {
        "town a 1 fast 2;town b 3 slow 4;town c 5;term a 0 60 fast 7;term b 100 300 slow 8;train k a b 9 10;train l b c 11 12;"
            + "limit 2;change 3;frost 4;",
        "town d 20 slow 12;town e 13;town f 15 fast 1;term e 40 90 slow 17;term d 110 350 fast 18;train m e d 19 20;train n f e 21 22;"
            + "limit 5;change 6;frost 7;"};
    private static final String[] SENTENCES = {"number > 0 and fast < 2", "number < 2 and fast = 0"};
    private static final String[] NAMES = {"abc", "def"};

    private static void allParts() {
        SundialTreaty x = new SundialTreaty();
        String[] was = new String[2];
        for (int k = 0; k < 2; k++) {
            Texts.VALLEY.read(x, VALLEYS[k]);
            Texts.SENTENCE.read(x, SENTENCES[k]);
            x.bend(k, 1);
            x.shade(2 - k);
            x.freeze();
            x.days(50 + k);
            was[k] = Check.land(x);
            x.image(k);
        }
        Check.yes("they are unlike", !was[0].equals(was[1]));
        for (int i = 0; i < 6; i++) {
            int k = i % 2;
            x.restore(k);
            Check.yes("all is as kept in place " + k, Check.land(x).equals(was[k]));
            for (int t = 0; t < 3; t++) {
                x.motto(t);
                Check.eq("the name of town " + t, x.byteAt(0), NAMES[k].charAt(t));
            }
            Check.eq("the other one's names are not told", Texts.BOOK.read(x, "shade " + NAMES[1 - k].charAt(0) + ";"), -8);
            Texts.VALLEY.read(x, "town z 1;");
        }
    }

    private static void kept() {
        for (int k = 0; k < 2; k++) {
            int place = k;
            SundialTreaty x = busy();
            String before = Check.land(x);
            Check.stays("image(" + place + ")", x, () -> Check.yes("image(" + place + ")", x.image(place)));
            Check.eq("what can be undone stays", x.undo(), 4);
            x.days(9);
            x.clear(1);
            Texts.SENTENCE.read(x, "right");
            Texts.VALLEY.read(x, Texts.towns(7) + Texts.terms(12) + Texts.trains(8) + "limit 1;change 1;frost 2;");
            x.drawn(60, 3);
            Check.yes("restore(" + place + ")", x.restore(place));
            Check.yes("all is as it was", Check.land(x).equals(before));
        }
    }

    private static void noPlace() {
        SundialTreaty x = busy();
        for (int k : NO_PLACE) {
            Check.stays("image(" + k + ")", x, () -> Check.no("image(" + k + ")", x.image(k)));
        }
        Check.no("nothing was kept in place 0", x.restore(0));
        Check.no("nothing was kept in place 1", x.restore(1));
    }

    private static void asKept() {
        SundialTreaty x = busy();
        String first = Check.land(x);
        x.image(0);
        x.days(1);
        String second = Check.land(x);
        x.image(1);
        Texts.VALLEY.read(x, "");
        String empty = Check.land(x);
        for (int i = 0; i < 3; i++) {
            x.restore(0);
            Check.yes("the first", Check.land(x).equals(first));
            x.bend(1, 1);
            x.days(3);
            Texts.SENTENCE.read(x, "right");
            x.restore(1);
            Check.yes("the second", Check.land(x).equals(second));
            x.freeze();
        }
        // Kept anew: what was kept there is gone, the other place stays.
        Texts.VALLEY.read(x, "");
        x.image(0);
        x.restore(1);
        Check.yes("the second", Check.land(x).equals(second));
        x.restore(0);
        Check.yes("the empty one", Check.land(x).equals(empty));
        Check.eq("said(-1) of no sentence", x.said(-1), -1);
        // Whether a dial was bent on the day is kept, too.
        SundialTreaty y = Check.valley("town a 0;");
        y.bend(0, 1);
        y.image(0);
        y.days(1);
        y.restore(0);
        Check.eq("bend() of one that was bent", y.bend(0, 1), 1);
    }

    private static void toldLastStays() {
        SundialTreaty x = busy();
        x.image(0);
        x.clear(1);
        x.even();
        x.nearer();
        x.motto(0);
        x.route(0, 1, 0);
        Texts.BOOK.read(x, "day 3;clear a;");
        Texts.VALLEY.read(x, "limit 0;");
        x.feed(0x72696768, 0x74202020, 0x20202020, 0x20202020, 0x20202020);
        String before = Check.toldLast(x);
        Check.yes("restore(0)", x.restore(0));
        Check.yes("what was told last stays", Check.toldLast(x).equals(before));
        Check.eq("fault() stays", x.fault(), 2);
        Check.eq("the tape stays", x.count(6), 20);
        Check.eq("sentence() of the tape that stayed", x.sentence(), 1);
    }

    private static void nothingUndone() {
        SundialTreaty x = busy();
        x.image(1);
        for (int i = 0; i < 9; i++) {
            x.days(1);
        }
        x.restore(1);
        Check.eqAndStays("undo()", x, x::undo, -1);
        x.days(1);
        Check.eq("undo() of what came later", x.undo(), 0);
        Check.eqAndStays("undo() of one more", x, x::undo, -1);
    }

    private static void nothingKept() {
        SundialTreaty x = busy();
        for (int k : NO_PLACE) {
            Check.stays("restore(" + k + ")", x, () -> Check.no("restore(" + k + ")", x.restore(k)));
        }
        Check.stays("restore(0)", x, () -> Check.no("restore(0)", x.restore(0)));
        Check.stays("restore(1)", x, () -> Check.no("restore(1)", x.restore(1)));
        x.image(1);
        Check.stays("restore(0) with the other one kept", x, () -> Check.no("restore(0)", x.restore(0)));
        Check.eq("what can be undone stays", x.undo(), 4);
        Check.yes("restore(1)", x.restore(1));
        Check.yes("restore(1) again", x.restore(1));
    }
}
