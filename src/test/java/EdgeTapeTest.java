/** Promises 1 to 3, 26, 32, 33 and 42, and SHADOWS and MOTTO: a test for each sentence that names an edge. */
final class EdgeTapeTest {
    private static final int LEAST = Integer.MIN_VALUE;
    private static final int MOST = Integer.MAX_VALUE;
    /** On day 0: a must be 5 fast and is, b must be 4 slow and is 3 slow, c may be as it is. */
    private static final String THREE = "town a 20 fast 5;town b 0 slow 3;town c 60;term a 0 9 fast 5;term b 0 20 slow 4;";

    public static void main(String[] args) {
        Check.sentence("An object is used for at most 512 calls after it has been made", EdgeTapeTest::calls512);
        Check.sentence("An empty VALLEY; an empty tape.", EdgeTapeTest::newObject);
        Check.sentence("Twenty bytes come behind the tape, of each number the highest first: how many it has", EdgeTapeTest::feed);
        Check.sentence("NONE, and none come, if it would have more than 940", EdgeTapeTest::tooManyBytes);
        Check.sentence("The tape has its first n bytes alone: true", EdgeTapeTest::firstBytes);
        Check.sentence("false, if it has not so many, or n is below 0", EdgeTapeTest::notSoMany);
        Check.sentence("pairs of bytes: a TOWN, what its dial showed at minute 100; 1 to 10 of them", EdgeTapeTest::pairs);
        Check.sentence("if each told was bent so (30 at most either way", EdgeTapeTest::bentSo);
        Check.sentence("of one told twice the later stands", EdgeTapeTest::laterStands);
        Check.sentence("the others as they are", EdgeTapeTest::others);
        Check.sentence("SHADOWS: TOWNS, as bits; NONE: not as told.", EdgeTapeTest::notAsTold);
        Check.sentence("MOTTO of a TOWN: how many bytes; NONE: no such one.", EdgeTapeTest::motto);
        Check.sentence("' counts ' and ' right' or ' fast ', ' slow ' and minutes as digits", EdgeTapeTest::minutes);
        Check.sentence("Byte i of the latest MOTTO; NONE: none such.", EdgeTapeTest::byteAt);
        Check.sentence("0 TOWNS, 1 terms, 2 TRAINS, 3 'limit', 4 'change', 5 'frost', 6 bytes of the tape.", EdgeTapeTest::counts);
        Check.sentence("NONE for another what.", EdgeTapeTest::otherCounts);
        Check.finish("EdgeTapeTest");
    }

    /** Eleven calls to feed a valley, then 500 acts and the question what came of them. */
    private static void calls512() {
        SundialTreaty x = new SundialTreaty();
        x.feed(0x746f776e, 0x20612031, 0x3b202020, 0x20202020, 0x20202020);
        x.valley();
        for (int i = 0; i < 9; i++) {
            x.shade(0);
        }
        for (int i = 0; i < 250; i++) {
            Check.eq("clear(0) or shade(0)", i % 2 == 0 ? x.clear(0) : x.shade(0), 0);
            Check.eq("days(1)", x.days(1), 1);
        }
        Check.eq("the 512th call", x.now(0), 250);
    }

    private static void newObject() {
        SundialTreaty x = new SundialTreaty();
        int[] counts = {0, 0, 0, 3, 2, 1, 0};
        for (int what = 0; what < counts.length; what++) {
            Check.eq("count(" + what + ")", x.count(what), counts[what]);
        }
        for (int what = 0; what < 7; what++) {
            Check.eq("now(" + what + ")", x.now(what), 0);
        }
        Check.none("town(0, 0)", () -> x.town(0, 0));
        Check.none("due(0, 0)", () -> x.due(0, 0));
        Check.none("train(0, 0)", () -> x.train(0, 0));
        Check.none("shows(0, 0)", () -> x.shows(0, 0));
        Check.eq("bend, shade, clear", x.bend(0, 1) + x.shade(0) + x.clear(0), -3);
        Check.eq("even()", x.even(), 0);
        Check.eq("nearer()", x.nearer(), 1);
        Check.eq("kept()", x.kept(), 0);
        Check.eq("worst(60)", x.worst(60), -1);
        Check.eq("said(-1)", x.said(-1), -1);
        Check.eq("freeze()", x.freeze(), 0);
        Check.eq("days(60)", x.days(60), 60);
        Check.eq("undo()", x.undo(), 1);
        SundialTreaty y = new SundialTreaty();
        Check.eq("an object knows nothing of another", y.now(0) + y.count(0) + y.fault(), 0);
        Check.eq("undo() of another", y.undo(), -1);
    }

    private static void feed() {
        SundialTreaty x = new SundialTreaty();
        for (int n = 20; n <= 940; n += 20) {
            Check.eq("feed to " + n, x.feed(n, -n, LEAST, MOST, 0), n);
            Check.eq("count(6)", x.count(6), n);
        }
        // The bytes of each number, the highest first, the numbers one behind the other.
        SundialTreaty y = Check.valley(THREE);
        Check.eq("feed", y.feed(0x00550161, 0x02280055, 0x01610228, 0x00550161, 0x02280054), 20);
        Check.eq("shadows() of ten pairs", y.shadows(), 3);
        Check.eq("feed", y.feed(0x00550160, 0x02280055, 0x01600228, 0x00550160, 0x02280055), 20);
        Check.eq("shadows() of ten pairs", y.shadows(), 0);
        SundialTreaty z = new SundialTreaty();
        z.feed(0x6c696d69, 0x7420373b, 0x6368616e, 0x67652038, 0x3b66726f);
        z.feed(0x73742039, 0x3b202020, 0x20202020, 0x20202020, 0x20202020);
        Check.eq("valley() of two times twenty bytes", z.valley(), 3);
        Check.eq("its settings", z.count(3) * 100 + z.count(4) * 10 + z.count(5), 789);
    }

    private static void tooManyBytes() {
        for (int bytes = 915; bytes <= 940; bytes++) {
            SundialTreaty x = new SundialTreaty();
            Check.tape(x, "limit 7;" + Check.blanks(940 - 8));
            x.end(bytes);
            boolean fits = bytes <= 920;
            Check.eq("feed behind " + bytes, x.feed(LEAST, MOST, 0, -1, 1), fits ? bytes + 20 : -1);
            Check.eq("count(6) then", x.count(6), fits ? bytes + 20 : bytes);
            x.end(20);
            Check.eq("the first bytes stay", x.valley(), 1);
            Check.eq("feed of an empty tape", x.feed(0, 0, 0, 0, 0), 20);
        }
    }

    private static void firstBytes() {
        SundialTreaty x = new SundialTreaty();
        Check.yes("end(0) of an empty tape", x.end(0));
        String text = "limit 4;change 5;frost 6;";
        int[] lines = {8, 17, 25};
        for (int i = 0; i < 3; i++) {
            Check.tape(x, text);
            Check.yes("end(" + lines[i] + ")", x.end(lines[i]));
            Check.eq("count(6)", x.count(6), lines[i]);
            Check.eq("valley()", x.valley(), i + 1);
        }
        // Behind a cut the tape goes on where it was cut.
        x.feed(0x6c696d69, 0x74203939, 0, 0, 0);
        Check.yes("end(6)", x.end(6));
        Check.eq("feed", x.feed(0x353b2020, 0x20202020, 0x20202020, 0x20202020, 0x20202020), 26);
        Check.eq("valley()", x.valley(), 1);
        Check.eq("limit", x.count(3), 5);
    }

    private static void notSoMany() {
        SundialTreaty x = new SundialTreaty();
        int[] wrong = {1, 2, 20, 940, -1, -20, LEAST, MOST};
        for (int n : wrong) {
            Check.stays("end(" + n + ") of an empty tape", x, () -> Check.no("end(" + n + ")", x.end(n)));
        }
        x.feed(1, 2, 3, 4, 5);
        int[] wrongThen = {21, 40, 941, -1, LEAST, MOST};
        for (int n : wrongThen) {
            Check.stays("end(" + n + ")", x, () -> Check.no("end(" + n + ")", x.end(n)));
        }
        Check.yes("end(20)", x.end(20));
        Check.yes("end(19)", x.end(19));
        Check.no("end(20) then", x.end(20));
        Check.yes("end(0)", x.end(0));
        Check.no("end(1) then", x.end(1));
    }

    private static void shadows(String what, int want, int... bytes) {
        shadows(what, Check.valley(THREE), want, bytes);
    }

    private static void shadows(String what, SundialTreaty x, int want, int... bytes) {
        StringBuilder text = new StringBuilder();
        for (int b : bytes) {
            text.append((char) b);
        }
        String before = Check.all(x);
        Check.tape(x, text.toString());
        Check.eq(what, x.shadows(), want);
        Check.eq("the tape behind " + what, x.count(6), 0);
        Check.yes("all stays by " + what, Check.all(x).equals(before));
    }

    private static void pairs() {
        shadows("none", -1);
        shadows("half a pair", -1, 0);
        shadows("one and a half", -1, 0, 85, 1);
        for (int pairs = 1; pairs <= 12; pairs++) {
            int[] bytes = new int[2 * pairs];
            int[] more = new int[2 * pairs + 1];
            for (int i = 0; i < pairs; i++) {
                bytes[2 * i] = 1;
                bytes[2 * i + 1] = 96;
                more[2 * i] = 1;
                more[2 * i + 1] = 96;
            }
            shadows(pairs + " pairs", pairs <= 10 ? 0 : -1, bytes);
            shadows(pairs + " pairs and a byte", -1, more);
        }
        SundialTreaty x = Check.valley(THREE);
        for (int i = 0; i < 47; i++) {
            x.feed(0x01600160, 0x01600160, 0x01600160, 0x01600160, 0x01600160);
        }
        Check.eq("a full tape", x.shadows(), -1);
        Check.eq("it is empty then", x.count(6), 0);
    }

    /** Of each town, each byte: the bend would be the byte less 100 and the noon. */
    private static void bentSo() {
        int[] noons = {20, 0, 60};
        int[] dues = {5, -4, 99};
        for (int t = 0; t < 3; t++) {
            for (int shown = 0; shown < 256; shown++) {
                int bend = shown - 100 + noons[t];
                int others = t == 1 ? 0 : 2;
                int own = t == 2 || bend == dues[t] ? 0 : 1 << t;
                shadows("town " + t + " showed " + shown, bend < -30 || bend > 30 ? -1 : others | own, t, shown);
            }
        }
    }

    private static void laterStands() {
        shadows("a right, then wrong", 3, 0, 85, 0, 84);
        shadows("a wrong, then right", 2, 0, 84, 0, 85);
        shadows("with another one between", 0, 1, 70, 0, 84, 1, 96, 0, 85);
        shadows("the other way round", 3, 1, 96, 0, 85, 1, 70, 0, 84);
        // A choice (NOTES.md): one that is overruled must be within 30, too.
        shadows("one too fast, then right", -1, 0, 111, 0, 85);
    }

    private static void others() {
        SundialTreaty x = Check.valley(THREE);
        shadows("b is in breach as it is", x, 2, 0, 85);
        shadows("c can't be in breach", x, 2, 2, 40);
        x.bend(1, -1);
        shadows("b is as it must be now", x, 0, 0, 85);
        x.shade(0);
        x.shade(1);
        shadows("shaded ones, too", x, 3, 0, 80, 1, 80);
        x.days(10);
        shadows("a has no due now", x, 2, 0, 80, 1, 80);
        x.days(11);
        shadows("none has", x, 0, 0, 80, 1, 80);
    }

    private static void notAsTold() {
        shadows("town 3", -1, 3, 100);
        shadows("town 7", -1, 7, 100);
        shadows("town 255", -1, 255, 100);
        shadows("a good pair, then town 3", -1, 0, 85, 3, 100);
        shadows("a good pair, then one too fast", -1, 0, 85, 1, 131);
        shadows("without towns", new SundialTreaty(), -1, 0, 100);
        SundialTreaty seven = Check.valley("town a 1;town b 1;town c 1;town d 1;town e 1;town f 1;town g 1;term g 0 0 fast 1;term a 0 0 fast 1;");
        shadows("the last one of seven", seven, 1, 6, 100);
        shadows("the last one of seven", seven, 65, 6, 101);
    }

    private static void motto() {
        SundialTreaty x = Check.valley("town a 1;town bcdefgh 1 slow 30;");
        MottoTest.motto(x, 0, "a counts right");
        MottoTest.motto(x, 1, "bcdefgh counts slow 30");
        x.shade(0);
        x.shade(1);
        MottoTest.motto(x, 0, "a counts right in the shade");
        MottoTest.motto(x, 1, "bcdefgh counts slow 30 in the shade");
        x.clear(1);
        MottoTest.motto(x, 1, "bcdefgh counts slow 30");
        int[] wrong = {-1, 2, 7, LEAST, MOST};
        for (int t : wrong) {
            Check.eqAndStays("motto(" + t + ")", x, () -> x.motto(t), -1);
        }
        Check.eq("motto(0) without towns", new SundialTreaty().motto(0), -1);
    }

    private static void minutes() {
        for (int m = 1; m <= 30; m++) {
            MottoTest.motto(Check.valley("town ab 0 fast " + m + ";"), 0, "ab counts fast " + m);
            MottoTest.motto(Check.valley("town ab 0 slow " + m + ";"), 0, "ab counts slow " + m);
        }
        SundialTreaty x = Check.valley("town ab 0 fast 1;");
        x.freeze();
        MottoTest.motto(x, 0, "ab counts right");
        x.bend(0, -1);
        MottoTest.motto(x, 0, "ab counts slow 1");
    }

    private static void byteAt() {
        SundialTreaty x = Check.valley("town ab 0 fast 10;town c 0;");
        int[] any = {0, 1, -1, 39, LEAST, MOST};
        for (int i : any) {
            Check.eq("byteAt(" + i + ") ahead of any", x.byteAt(i), -1);
        }
        MottoTest.motto(x, 0, "ab counts fast 10");
        int[] wrong = {-1, 17, 18, 39, 40, 41, LEAST, MOST};
        for (int i : wrong) {
            Check.eq("byteAt(" + i + ")", x.byteAt(i), -1);
        }
        x.motto(2);
        Check.eq("byteAt(16) behind a motto of none", x.byteAt(16), '0');
        MottoTest.motto(x, 1, "c counts right");
        Check.eq("byteAt(16) of a shorter one", x.byteAt(16), -1);
    }

    private static void counts() {
        SundialTreaty x = Check.valley(Texts.towns(7) + Texts.terms(12) + Texts.trains(8) + "limit 10;change 30;frost 12;");
        x.feed(0, 0, 0, 0, 0);
        int[] want = {7, 12, 8, 10, 30, 12, 20};
        for (int what = 0; what < want.length; what++) {
            Check.eq("count(" + what + ")", x.count(what), want[what]);
        }
        Texts.VALLEY.read(x, "limit 1;change 0;frost 0;");
        int[] then = {0, 0, 0, 1, 0, 0, 0};
        for (int what = 0; what < then.length; what++) {
            Check.eq("count(" + what + ") of another valley", x.count(what), then[what]);
        }
    }

    private static void otherCounts() {
        SundialTreaty x = Check.valley(Texts.HOME);
        int[] wrong = {-1, 7, 8, LEAST, MOST};
        for (int what : wrong) {
            Check.eqAndStays("count(" + what + ")", x, () -> x.count(what), -1);
        }
    }
}
