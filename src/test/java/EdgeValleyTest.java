/** What 'Terms' tells of a VALLEY, promises 4 and 5: a test for each sentence that names an edge. */
final class EdgeValleyTest {
    private static final String[] TOLD = {"town", "fast", "slow", "term", "train", "limit", "change", "frost", "bend", "shade",
        "clear", "freeze", "day", "or", "and", "not", "right", "shaded", "breach", "ahead", "broken", "number"};

    public static void main(String[] args) {
        Check.sentence("A VALLEY is a text of at most 900 bytes: { LINE ; }", EdgeValleyTest::lines);
        Check.sentence("'town' NAME NOON [ WAY N ] (0 to 60", EdgeValleyTest::noon);
        Check.sentence("WAY: 'fast', 'slow'; 1 to 30", EdgeValleyTest::townBend);
        Check.sentence("without: not bent", EdgeValleyTest::notBent);
        Check.sentence("'term' TOWN FROM TO WAY N (DAYS 0 to 399", EdgeValleyTest::from);
        Check.sentence("FROM to 399", EdgeValleyTest::to);
        Check.sentence("0 to 30)", EdgeValleyTest::termBend);
        Check.sentence("'train' NAME TOWN TOWN LEAVES TAKES (unlike; 0 to 600", EdgeValleyTest::leaves);
        Check.sentence("1 to 200)", EdgeValleyTest::takes);
        Check.sentence("'limit' N (1 to 10; once; 3 without)", () -> setting("limit", 1, 10, 3, 3));
        Check.sentence("'change' N (0 to 30; once; 2 without)", () -> setting("change", 0, 30, 2, 4));
        Check.sentence("'frost' N (0 to 12; once; 1 without)", () -> setting("frost", 0, 12, 1, 5));
        Check.sentence("NAME: a WORD, none of those told here, in a BOOK or a SENTENCE", EdgeValleyTest::toldWords);
        Check.sentence("told once", EdgeValleyTest::toldOnce);
        Check.sentence("7 TOWNS, 12 terms, 8 TRAINS at most", EdgeValleyTest::full);
        Check.sentence("TOWNS, terms, TRAINS numbered from 0 each", EdgeValleyTest::numbered);
        Check.sentence("The tape (empty then, here and below) is the VALLEY now: how many LINES", EdgeValleyTest::isTheValley);
        Check.sentence("-1 less the place of a FAULT: it stays", EdgeValleyTest::faultStays);
        Check.sentence("A new VALLEY: DAY 0, BENDS as told, nothing shaded, no SENTENCE.", EdgeValleyTest::newValley);
        Check.sentence("The kind of the FAULT of the latest valley(), book() or sentence()", EdgeValleyTest::kindOfFault);
        Check.sentence("(a book() of -1000 leaves it)", EdgeValleyTest::faultLeft);
        Check.sentence("0 without one and ahead of any", EdgeValleyTest::noFault);
        Check.finish("EdgeValleyTest");
    }

    private static void lines() {
        Check.eq("towns of an empty text", Texts.VALLEY.good("", 0).count(0), 0);
        Texts.VALLEY.good(" ", 0);
        Texts.VALLEY.fault(";", 1, 0);
        Texts.VALLEY.fault("limit 3;;", 1, 8);
        Texts.VALLEY.fault("limit 3", 1, 7);
        String all = Texts.towns(7) + Texts.terms(12) + Texts.trains(8) + "limit 3;change 3;frost 3;";
        Texts.VALLEY.good(all, 30);
        Texts.VALLEY.good(all + Check.blanks(900 - all.length()), 30);
        Texts.VALLEY.fault(all + Check.blanks(901 - all.length()), 1, 900);
    }

    private static void noon() {
        Texts.VALLEY.range("town d ", ";", 0, 60, 1);
        Texts.VALLEY.range("town d ", " fast 30;", 0, 60, 1);
        Check.eq("noon 0", Check.valley("town d 0;").town(0, 0), 0);
        Check.eq("noon 60", Check.valley("town d 60;").town(0, 0), 60);
    }

    private static void townBend() {
        Texts.VALLEY.range("town d 1 fast ", ";", 1, 30, 1);
        Texts.VALLEY.range("town d 1 slow ", ";", 1, 30, 1);
        int[] bends = {1, 30};
        for (int n : bends) {
            Check.eq("fast " + n, Check.valley("town d 1 fast " + n + ";").town(0, 1), n);
            Check.eq("slow " + n, Check.valley("town d 1 slow " + n + ";").town(0, 1), -n);
        }
    }

    private static void notBent() {
        SundialTreaty x = Check.valley("town c 1 fast 9;town d 1;town e 60;");
        Check.eq("the second one's bend", x.town(1, 1), 0);
        Check.eq("the third one's bend", x.town(2, 1), 0);
        // Nothing is left of valleys that were there ahead of it.
        for (int i = 0; i < 3; i++) {
            Texts.VALLEY.read(x, "town c 1 fast 9;town d 1 slow 8;");
            Texts.VALLEY.read(x, "town d 1 fast 7;town e 1 slow 6;");
            Texts.VALLEY.read(x, "town d 1;town e 1;");
            Check.eq("bends in a new valley", x.town(0, 1) * 100 + x.town(1, 1), 0);
        }
    }

    private static void from() {
        Texts.VALLEY.range("town d 1;term d ", " 399 fast 1;", 0, 399, 2);
    }

    private static void to() {
        int[] froms = {0, 1, 200, 398, 399};
        for (int from : froms) {
            Texts.VALLEY.range("town d 1;term d " + from + " ", " fast 1;", from, 399, 2);
        }
    }

    private static void termBend() {
        Texts.VALLEY.range("town d 1;term d 0 0 fast ", ";", 0, 30, 2);
        Texts.VALLEY.range("town d 1;term d 0 0 slow ", ";", 0, 30, 2);
        Check.eq("fast 30", Check.valley("town d 1;term d 0 0 fast 30;").due(0, 0), 30);
        Check.eq("slow 30", Check.valley("town d 1;term d 0 0 slow 30;").due(0, 0), -30);
        Check.eq("fast 0", Check.valley("town d 1;term d 0 0 fast 0;").due(0, 0), 0);
        Check.eq("slow 0", Check.valley("town d 1;term d 0 0 slow 0;").due(0, 0), 0);
    }

    private static void leaves() {
        Texts.VALLEY.fault(Texts.towns(2) + "train k a a 0 1;", 3, 28);
        Texts.VALLEY.range(Texts.towns(2) + "train k a b ", " 1;", 0, 600, 3);
        Check.eq("leaves 600", Check.valley(Texts.towns(2) + "train k a b 600 200;").train(0, 2), 600);
    }

    private static void takes() {
        Texts.VALLEY.range(Texts.towns(2) + "train k a b 0 ", ";", 1, 200, 3);
        Check.eq("takes 200", Check.valley(Texts.towns(2) + "train k a b 600 200;").train(0, 3), 200);
    }

    private static void setting(String word, int least, int most, int without, int what) {
        Texts.VALLEY.range(word + " ", ";", least, most, 1);
        Check.eq("without " + word, Texts.VALLEY.good("town d 1;", 1).count(what), without);
        Check.eq(word + " at least", Texts.VALLEY.good(word + " " + least + ";", 1).count(what), least);
        Check.eq(word + " at most", Texts.VALLEY.good(word + " " + most + ";", 1).count(what), most);
        String once = word + " " + without + ";";
        Texts.VALLEY.fault(once + once, 3, once.length());
        Texts.VALLEY.fault(once + "town d 1;" + once, 3, once.length() + 9);
        // It is without again in the next valleys, however many told it ahead of them.
        SundialTreaty x = Check.valley(word + " " + most + ";");
        for (int i = 0; i < 3; i++) {
            Texts.VALLEY.read(x, "town d 1;");
            Check.eq("without " + word + " behind one with it", x.count(what), without);
            Texts.VALLEY.read(x, word + " " + most + ";");
            Texts.VALLEY.read(x, word + " " + most + ";town d 1;");
            Check.eq("with " + word, x.count(what), most);
        }
    }

    private static void toldWords() {
        for (String word : TOLD) {
            Texts.VALLEY.fault("town " + word + " 1;", 1, 5);
            Texts.VALLEY.fault(Texts.towns(2) + "train " + word + " a b 0 1;", 1, 24);
            // A letter more, a letter fewer: a name like any other.
            String more = word.length() < 7 ? word + "x" : "x" + word.substring(1);
            Texts.VALLEY.good("town " + more + " 1;", 1);
            Texts.VALLEY.good("town x" + word.substring(1) + " 1;", 1);
        }
        String[] others = {"noon", "name", "way", "line", "dial", "minute", "own", "days", "bends", "cond", "all", "one"};
        for (String word : others) {
            Texts.VALLEY.good("town " + word + " 1;", 1);
        }
    }

    private static void toldOnce() {
        Texts.VALLEY.fault("town d 1;town d 1;", 3, 14);
        Texts.VALLEY.fault(Texts.towns(6) + "town a 1;", 3, 59);
        Texts.VALLEY.fault(Texts.towns(2) + "train b a b 0 1;", 3, 24);
        Texts.VALLEY.fault(Texts.towns(2) + Texts.trains(7) + "train ka a b 0 1;", 3, 18 + 7 * 17 + 6);
        Texts.VALLEY.fault(Texts.towns(2) + Texts.trains(1) + "town ka 1;", 3, 18 + 17 + 5);
        Texts.VALLEY.fault(Texts.towns(2) + Texts.trains(8) + "town kh 1;", 3, 18 + 8 * 17 + 5);
        Texts.VALLEY.good(Texts.towns(2) + Texts.trains(8) + "town ki 1;", 11);
        // Names of valleys that were there ahead of it are free again.
        SundialTreaty x = Check.valley(Texts.towns(2) + Texts.trains(3));
        for (int i = 0; i < 3; i++) {
            Check.eq("trains told as towns", Texts.VALLEY.read(x, "town ka 1;town kb 1;town kc 1;train a ka kb 0 1;"), 4);
            Check.eq("towns told as trains", Texts.VALLEY.read(x, Texts.towns(2) + Texts.trains(3)), 5);
            Check.eq("towns told as trains", Texts.VALLEY.read(x, "town c 1;town d 1;train a c d 0 1;train b d c 0 1;"), 4);
        }
    }

    private static void full() {
        String towns = Texts.towns(7);
        String all = towns + Texts.terms(12) + Texts.trains(8);
        SundialTreaty x = Check.valley(all);
        Check.eq("towns", x.count(0), 7);
        Check.eq("terms", x.count(1), 12);
        Check.eq("trains", x.count(2), 8);
        Texts.VALLEY.fault(all + "town h 1;", 4, all.length());
        Texts.VALLEY.fault(all + "term a 0 0 fast 1;", 4, all.length());
        Texts.VALLEY.fault(all + "train z a b 0 1;", 4, all.length());
        // Each call knows the last town, too.
        x.bend(0, -3);
        Check.eq("even()", x.even(), 3);
        Check.eq("evenAt(6)", x.evenAt(6), 3);
        x.bend(6, 3);
        x.nearer();
        Check.eq("nearerAt(6)", x.nearerAt(6), 0);
        Check.eq("votes(6, 3)", x.votes(6, 3), -7);
        Check.eq("motto(6)", x.motto(6), "g counts fast 3".length());
        Check.eq("turns(6), right(6, 60)", x.turns(6) + x.right(6, 60), -1);
        Check.eq("drawn(60, 1)", x.drawn(60, 1), 60);
        Check.eq("worst(60)", x.worst(60), -1);
        // All of one town's terms hold, the twelfth one too.
        StringBuilder terms = new StringBuilder("town a 1;");
        for (int i = 0; i < 12; i++) {
            terms.append("term a ").append(i).append(' ').append(i).append(" fast ").append(i + 3).append(';');
        }
        SundialTreaty y = Check.valley(terms.toString());
        for (int day = 0; day < 12; day++) {
            Check.eq("due on day " + day, y.due(0, day), day + 3);
        }
    }

    private static void numbered() {
        SundialTreaty x = Check.valley("town z 7;town y 8;train k z y 5 1;term y 0 0 fast 3;town a 9;train b a z 6 1;"
                + "limit 3;town c 10;");
        int[] noons = {7, 8, 9, 10};
        for (int t = 0; t < 4; t++) {
            Check.eq("noon of town " + t, x.town(t, 0), noons[t]);
        }
        Check.none("town 4", () -> x.town(4, 0));
        Check.eq("train 0 leaves", x.train(0, 2), 5);
        Check.eq("train 1 leaves", x.train(1, 2), 6);
        Check.none("train 2", () -> x.train(2, 0));
        Check.eq("the term is town 1's", x.due(1, 0), 3);
        SundialTreaty full = Check.valley(Texts.towns(7) + Texts.trains(8));
        Check.eq("noon of town 6", full.town(6, 0), 1);
        Check.none("town 7", () -> full.town(7, 0));
        Check.eq("train 7 leaves", full.train(7, 2), 0);
        Check.none("train 8", () -> full.train(8, 0));
    }

    private static void isTheValley() {
        SundialTreaty x = Check.valley(Texts.HOME);
        Check.eq("bytes of the tape", x.count(6), 0);
        Check.eq("the empty tape", x.valley(), 0);
        Check.eq("towns then", x.count(0) + x.count(1) + x.count(2), 0);
        Check.eq("three lines", Texts.VALLEY.read(x, "town d 1;limit 2;town e 1;"), 3);
        Check.eq("bytes of the tape", x.count(6), 0);
        Check.eq("towns then", x.count(0), 2);
    }

    private static void faultStays() {
        SundialTreaty x = Check.valley(Texts.HOME);
        Texts.SENTENCE.read(x, "not right");
        x.bend(0, 3);
        x.shade(1);
        x.days(7);
        x.freeze();
        x.bend(2, -4);
        x.even();
        x.nearer();
        x.motto(1);
        x.route(0, 1, 0);
        String before = Check.all(x);
        String[] texts = {"?", "town a 61;", "town a 1;town b 2;town b 3;", Texts.towns(8), "limit 3;frost 3;change", Check.blanks(901)};
        int[] answers = {-1, -8, -24, -64, -23, -901};
        for (int i = 0; i < texts.length; i++) {
            Check.eq("valley() of " + Check.brief(texts[i]), Texts.VALLEY.read(x, texts[i]), answers[i]);
            Check.yes("all stays behind " + Check.brief(texts[i]), Check.all(x).equals(before));
            Check.eq("the tape is empty", x.count(6), 0);
        }
        Check.eq("what can be undone stays", x.undo(), 4);
    }

    private static void newValley() {
        SundialTreaty x = Check.valley(Texts.HOME);
        Texts.SENTENCE.read(x, "right");
        x.shade(0);
        x.shade(2);
        x.days(60);
        x.clear(0);
        x.days(5);
        x.freeze();
        x.bend(0, 1);
        x.bend(1, -2);
        Check.eq("valley()", Texts.VALLEY.read(x, Texts.HOME), 6);
        SundialTreaty y = Check.valley(Texts.HOME);
        Check.yes("all is as in a new object", Check.all(x).equals(Check.all(y)));
        Check.eq("the day", x.now(0), 0);
        Check.eq("bends", x.town(0, 1) * 100 + x.town(1, 1), 496);
        Check.eq("shaded", x.now(3), 0);
        Check.eq("breaches so far", x.now(4), 0);
        Check.eq("sprung so far", x.now(5), 0);
        Check.eq("bent today", x.town(0, 7) + x.town(1, 7), 0);
        Check.eq("said(-1)", x.said(-1), -1);
        Check.eq("undo()", x.undo(), -1);
    }

    private static void kindOfFault() {
        SundialTreaty x = Check.valley(Texts.HOME);
        String[] valleys = {"?", "limit 0;", "limit 1;limit 1;", Texts.towns(8)};
        String[] books = {"?", "day 0;", "shade z;", "freeze;".repeat(41)};
        String[] sentences = {"?", "right", "ahead z", "not ".repeat(8) + "right"};
        for (int i = 0; i < 4; i++) {
            Texts.VALLEY.read(x, valleys[i]);
            Check.eq("fault() of " + valleys[i], x.fault(), i + 1);
            Texts.BOOK.read(x, books[3 - i]);
            Check.eq("fault() of " + books[3 - i], x.fault(), 4 - i);
            Texts.SENTENCE.read(x, sentences[i]);
            Check.eq("fault() of " + sentences[i], x.fault(), i == 1 ? 0 : i + 1);
            x.days(1);
            x.town(0, 0);
            x.image(0);
            Check.eq("fault() behind other calls", x.fault(), i == 1 ? 0 : i + 1);
        }
    }

    private static void faultLeft() {
        SundialTreaty x = Check.valley(Texts.HOME);
        int[] others = {2, -1, 1000, Integer.MIN_VALUE, Integer.MAX_VALUE};
        for (int lives : others) {
            Texts.VALLEY.read(x, "limit 0;");
            Check.eq("book(" + lives + ")", x.book(lives), -1000);
            Check.eq("fault() behind it", x.fault(), 2);
            Texts.BOOK.read(x, "");
            Check.tape(x, "?");
            Check.eq("book(" + lives + ") of a bad text", x.book(lives), -1000);
            Check.eq("fault() behind it", x.fault(), 0);
        }
    }

    private static void noFault() {
        SundialTreaty x = new SundialTreaty();
        Check.eq("fault() ahead of any", x.fault(), 0);
        for (Texts kind : Texts.values()) {
            Texts.VALLEY.read(x, "?");
            Check.eq("fault() of a bad one", x.fault(), 1);
            kind.read(x, kind.good);
            Check.eq("fault() of a good one", x.fault(), 0);
        }
    }
}
