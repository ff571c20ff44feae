/** LONG, ONE NOON, EVEN, VOTES and NEARER, promises 17 to 20 and 27 to 29: a test for each sentence that names an edge. */
final class EdgeNoonTest {
    private static final int LEAST = Integer.MIN_VALUE;
    private static final int MOST = Integer.MAX_VALUE;

    public static void main(String[] args) {
        Check.sentence("from the first NOON BY DIAL to the last one, of TOWNS that are not shaded", EdgeNoonTest::noonLong);
        Check.sentence("LONG. NoSuchElementException: all are shaded, there are none.", EdgeNoonTest::noLong);
        Check.sentence("by which all NOONS BY DIAL (shaded ones not) are off by the least in all", EdgeNoonTest::oneNoon);
        Check.sentence("of like ones the least", EdgeNoonTest::likeNoons);
        Check.sentence("ONE NOON. NoSuchElementException: likewise.", EdgeNoonTest::noOneNoon);
        Check.sentence("EVEN: TOWNS without a DUE today are bent", EdgeNoonTest::evenWithoutDue);
        Check.sentence("(as much as one likes, 30 at most either way in the end)", EdgeNoonTest::evenThirty);
        Check.sentence("so that all BENDS add to nothing: the fewest minutes in all", EdgeNoonTest::evenFewest);
        Check.sentence("of like ones the first: TOWN by TOWN the fewest minutes either way", EdgeNoonTest::evenFirst);
        Check.sentence("EVEN: how many minutes; NONE: it can't be.", EdgeNoonTest::cantBeEven);
        Check.sentence("by the latest even() that was not NONE. NoSuchElementException: no such one, ahead of any.",
                EdgeNoonTest::evenAt);
        Check.sentence("VOTES on a BEND of a TOWN by m (however far)", EdgeNoonTest::votesFar);
        Check.sentence("TOWNS (itself, too; shaded ones, too)", EdgeNoonTest::votesOfAll);
        Check.sentence("VOTES on a BEND of a TOWN by m (-60 to 60). NoSuchElementException: no such ones.", EdgeNoonTest::noVotes);
        Check.sentence("ROUND by ROUND, TOWN by TOWN without a DUE today and not shaded", EdgeNoonTest::whoComesNearer);
        Check.sentence("(as they are then; shaded ones not; there are none: it stays)", EdgeNoonTest::theOthers);
        Check.sentence("if it is off it and may (30)", EdgeNoonTest::mayComeNearer);
        Check.sentence("till a ROUND in which none does; 60 ROUNDS at most", EdgeNoonTest::sixtyRounds);
        Check.sentence("NEARER: how many ROUNDS (that in which none does counted).", EdgeNoonTest::rounds);
        Check.sentence("A TOWN's BEND then, by the latest nearer(). NoSuchElementException: no such one, ahead of any.",
                EdgeNoonTest::nearerAt);
        Check.finish("EdgeNoonTest");
    }

    private static void noonLong() {
        SundialTreaty x = Check.valley("town a 60 slow 30;town b 0 fast 30;town c 10;town d 12;");
        Check.eq("as long as it can be", x.noonLong(), 120);
        x.shade(0);
        Check.eq("without the last one", x.noonLong(), 42);
        x.shade(1);
        Check.eq("without the first one, too", x.noonLong(), 2);
        x.shade(3);
        Check.eq("of one", x.noonLong(), 0);
        x.clear(0);
        Check.eq("of two", x.noonLong(), 80);
        Check.eq("of like ones", Check.valley("town a 5;town b 6 fast 1;").noonLong(), 0);
        Check.eq("all below 0", Check.valley("town a 1 fast 30;town b 5 fast 30;").noonLong(), 4);
    }

    private static void noLong() {
        SundialTreaty x = Check.valley(Texts.towns(7));
        for (int t = 0; t < 7; t++) {
            Check.eq("with " + t + " shaded", x.noonLong(), 0);
            x.shade(t);
        }
        Check.noneAndStays("noonLong() when all are shaded", x, x::noonLong);
        x.clear(6);
        Check.eq("with one cleared", x.noonLong(), 0);
        Check.none("noonLong() of a new object", () -> new SundialTreaty().noonLong());
        SundialTreaty y = Check.valley(Texts.HOME);
        y.valley();
        Check.none("noonLong() in an empty valley", y::noonLong);
    }

    private static void oneNoon() {
        // 0, 1, 60: the middle one, however far the last one is.
        Check.eq("of three", Check.valley("town a 60;town b 1;town c 0;").oneNoon(), 1);
        Check.eq("of five", Check.valley("town a 60;town b 1;town c 0;town d 30;town e 29;").oneNoon(), 29);
        SundialTreaty x = Check.valley("town a 60 slow 30;town b 0 fast 30;town c 0 fast 29;");
        Check.eq("below 0", x.oneNoon(), -29);
        x.shade(1);
        Check.eq("of two", x.oneNoon(), -29);
        x.shade(2);
        Check.eq("of one", x.oneNoon(), 90);
        x.clear(1);
        Check.eq("a shaded one is not counted", x.oneNoon(), -30);
        SundialTreaty y = Check.valley("town a 10;town b 0;town c 20;town d 1;town e 30;town f 2;");
        y.shade(1);
        y.shade(3);
        y.shade(5);
        Check.eq("of 10, 20, 30, shaded ones ahead of them", y.oneNoon(), 20);
        SundialTreaty z = Check.valley("town a 10;town b 60;town c 20;town d 59;town e 30;town f 58;");
        z.shade(1);
        z.shade(3);
        z.shade(5);
        Check.eq("of 10, 20, 30, shaded ones behind them", z.oneNoon(), 20);
    }

    private static void likeNoons() {
        Check.eq("all from 10 to 20 are alike", Check.valley("town a 20;town b 10;").oneNoon(), 10);
        Check.eq("all from 10 to 20, of four", Check.valley("town a 20;town b 10;town c 60;town d 0;").oneNoon(), 10);
        Check.eq("all from 10 to 11, of six",
                Check.valley("town a 11;town b 10;town c 60;town d 0;town e 10;town f 11;").oneNoon(), 10);
        Check.eq("two and two", Check.valley("town a 9;town b 3;town c 9;town d 3;").oneNoon(), 3);
        Check.eq("three of four", Check.valley("town a 9;town b 3;town c 9;town d 9;").oneNoon(), 9);
    }

    private static void noOneNoon() {
        SundialTreaty x = Check.valley("town a 20;town b 10;");
        x.shade(0);
        x.shade(1);
        Check.noneAndStays("oneNoon() when all are shaded", x, x::oneNoon);
        x.clear(0);
        Check.eq("with one cleared", x.oneNoon(), 20);
        Check.none("oneNoon() of a new object", () -> new SundialTreaty().oneNoon());
    }

    private static void even(SundialTreaty x, int want, int... by) {
        String before = Check.land(x);
        Check.eq("even()", x.even(), want);
        for (int t = 0; t < by.length; t++) {
            Check.eq("evenAt(" + t + ")", x.evenAt(t), by[t]);
        }
        Check.yes("even() leaves the valley as it is", Check.land(x).equals(before));
    }

    private static void evenWithoutDue() {
        String text = "town a 0 fast 9;town b 0;town c 0;term c 5 6 fast 0;term b 6 6 fast 0;";
        even(Check.valleyOn(4, text), 9, 0, 0, -9);
        even(Check.valleyOn(5, text), 9, 0, -9, 0);
        even(Check.valleyOn(6, text), 9, -9, 0, 0);
        even(Check.valleyOn(7, text), 9, 0, 0, -9);
        SundialTreaty x = Check.valley(text);
        x.shade(2);
        x.bend(2, 1);
        even(x, 10, 0, 0, -10);
    }

    private static void evenThirty() {
        // The last one goes from 30 to -30 at most; what is more, the one ahead of it must give.
        even(Check.valley("town a 0 fast 30;town b 0 fast 30;"), 60, 0, -60);
        even(Check.valley("town a 0 fast 30;town b 0 fast 30;town c 0 fast 1;"), 61, 0, -30, -31);
        even(Check.valley("town a 0 slow 30;town b 0 slow 30;town c 0 slow 1;"), 61, 0, 30, 31);
        even(Check.valley("town a 0 fast 30;town b 0;term a 0 0 fast 1;"), 30, 0, -30);
        even(Check.valley("town a 0 fast 30;town b 0 fast 1;town c 0;term a 0 0 fast 1;term c 0 0 fast 1;"), 31, 0, -31, 0);
        StringBuilder all = new StringBuilder();
        for (int t = 0; t < 7; t++) {
            all.append("town ").append((char) ('a' + t)).append(" 0 fast 30;");
        }
        even(Check.valley(all.toString()), 210, 0, 0, 0, -30, -60, -60, -60);
    }

    private static void evenFewest() {
        even(Check.valley("town a 0 fast 7;town b 0 slow 7;"), 0, 0, 0);
        even(Check.valley("town a 0 fast 7;town b 0 slow 9;town c 0;"), 2, 0, 0, 2);
        even(Check.valley("town a 0 fast 9;town b 0 slow 7;town c 0;"), 2, 0, 0, -2);
        even(Check.valley("town a 0;"), 0, 0);
        even(Check.valley("town a 0 slow 1;"), 1, 1);
        even(Check.valley(""), 0);
    }

    private static void evenFirst() {
        even(Check.valley("town a 0 fast 3;town b 0;town c 0;town d 0;"), 3, 0, 0, 0, -3);
        even(Check.valley("town a 0 fast 30;town b 0;town c 0 slow 10;town d 0 slow 11;"), 9, 0, 0, 0, -9);
        even(Check.valley("town a 0 fast 30;town b 0 fast 30;town c 0 slow 20;town d 0 slow 20;"), 20, 0, 0, -10, -10);
        even(Check.valley("town a 0 fast 30;town b 0 fast 30;town c 0 fast 10;town d 0 slow 30;"), 40, 0, 0, -40, 0);
        even(Check.valley("town a 0 fast 30;town b 0 fast 30;town c 0 fast 11;town d 0 slow 30;"), 41, 0, 0, -41, 0);
        even(Check.valley("town a 0 fast 30;town b 0 fast 30;town c 0 slow 29;town d 0 slow 30;"), 1, 0, 0, -1, 0);
        even(Check.valley("town a 0 fast 30;town b 0 fast 30;town c 0 slow 29;town d 0 slow 29;"), 2, 0, 0, -1, -1);
        even(Check.valley("town a 0 fast 30;town b 0 fast 30;town c 0 slow 28;town d 0 slow 28;"), 4, 0, 0, -2, -2);
    }

    private static void cantBeEven() {
        Check.eq("all have a due", Check.valley("town a 0 fast 1;term a 0 0 fast 1;").even(), -1);
        Check.eq("all have a due and add to nothing", Check.valley("town a 0;term a 0 0 fast 1;").even(), 0);
        Check.eq("31 of one that is right", Check.valley("town a 0 fast 30;town b 0 fast 1;town c 0;term a 0 0 fast 1;"
                + "term b 0 0 fast 1;").even(), -1);
        Check.eq("30 of one that is right", Check.valley("town a 0 fast 29;town b 0 fast 1;town c 0;term a 0 0 fast 1;"
                + "term b 0 0 fast 1;").even(), 30);
        Check.eq("31 the other way", Check.valley("town a 0 slow 30;town b 0 slow 1;town c 0;term a 0 0 fast 1;"
                + "term b 0 0 fast 1;").even(), -1);
        Check.eq("all are over: none has a due", Check.valleyOn(400, "town a 0 fast 1;term a 0 399 fast 1;").even(), 1);
    }

    private static void evenAt() {
        SundialTreaty x = Check.valley("town a 0 fast 9;town b 0 slow 2;term b 0 399 fast 0;term a 3 9 fast 0;");
        Check.noneAndStays("evenAt(0) ahead of any", x, () -> x.evenAt(0));
        even(x, 7, -7, 0);
        int[] wrong = {-1, 2, 6, 7, LEAST, MOST};
        for (int t : wrong) {
            Check.noneAndStays("evenAt(" + t + ")", x, () -> x.evenAt(t));
        }
        Check.toDay(x, 3);
        Check.eq("even() that can't be", x.even(), -1);
        Check.eq("evenAt(0) stays", x.evenAt(0), -7);
        Check.eq("evenAt(1) stays", x.evenAt(1), 0);
        x.undo();
        x.bend(0, 3);
        Check.eq("evenAt(0) stays till the next even()", x.evenAt(0), -7);
        even(x, 10, -10, 0);
        SundialTreaty y = Check.valley("town a 0 fast 9;term a 0 0 fast 1;");
        Check.eq("an even() that can't be, ahead of any", y.even(), -1);
        Check.none("evenAt(0) then", () -> y.evenAt(0));
        // A choice (NOTES.md): it knows the towns of that even(), whatever valley there is now.
        Texts.VALLEY.read(x, "");
        Check.eq("evenAt(0) in an empty valley", x.evenAt(0), -10);
        Texts.VALLEY.read(x, Texts.towns(3));
        Check.eq("evenAt(1) in a larger one", x.evenAt(1), 0);
        Check.none("evenAt(2) in a larger one", () -> x.evenAt(2));
    }

    private static void votesFar() {
        // From 30 it would be at -30, at 90; b's noon is at 29, c's at -30.
        SundialTreaty x = Check.valley("town a 0 slow 30;town b 29;town c 0 fast 30;");
        Check.eq("votes(0, 60)", x.votes(0, 60), -1);
        Check.eq("votes(0, -60)", x.votes(0, -60), -3);
        Check.eq("votes(0, 1)", x.votes(0, 1), 1);
        Check.eq("votes(0, 2): as far from b as it was", x.votes(0, 2), 0);
        Check.eq("votes(0, 3)", x.votes(0, 3), -1);
        Check.eq("votes(0, 0)", x.votes(0, 0), 0);
        Check.eq("votes(2, -60)", x.votes(2, -60), 1);
        x.bend(0, 1);
        Check.eq("votes by what the dials are now", x.votes(0, 1), -1);
        Check.eq("one that was bent today", x.votes(0, -60), -3);
    }

    private static void votesOfAll() {
        SundialTreaty x = Check.valley("town a 10;town b 20;town c 30;");
        Check.eq("itself is against it", x.votes(0, -1), 1);
        Check.eq("alone", Check.valley("town a 10;").votes(0, 5), -1);
        Check.eq("alone, by 0", Check.valley("town a 10;").votes(0, 0), 0);
        x.shade(1);
        x.shade(2);
        Check.eq("shaded ones vote, too", x.votes(0, -1), 1);
        x.shade(0);
        Check.eq("for a shaded one, too", x.votes(0, -1), 1);
        StringBuilder seven = new StringBuilder("town a 0;");
        for (int t = 1; t < 7; t++) {
            seven.append("town ").append((char) ('a' + t)).append(" 60;");
        }
        Check.eq("six for it, itself against it", Check.valley(seven.toString()).votes(0, -60), 5);
        Check.eq("all against it", Check.valley(seven.toString()).votes(0, 60), -7);
    }

    private static void noVotes() {
        SundialTreaty x = Check.valley("town a 10;town b 20;");
        int[] wrong = {-61, 61, LEAST, MOST};
        for (int m : wrong) {
            Check.noneAndStays("votes(0, " + m + ")", x, () -> x.votes(0, m));
        }
        int[] towns = {-1, 2, 7, LEAST, MOST};
        for (int t : towns) {
            Check.noneAndStays("votes(" + t + ", 1)", x, () -> x.votes(t, 1));
        }
        Check.eqAndStays("votes(1, 60)", x, () -> x.votes(1, 60), -2);
        Check.eqAndStays("votes(1, -60)", x, () -> x.votes(1, -60), -2);
        Check.none("votes(0, 0) without towns", () -> new SundialTreaty().votes(0, 0));
    }

    private static void nearer(SundialTreaty x, int want, int... bends) {
        String before = Check.land(x);
        Check.eq("nearer()", x.nearer(), want);
        for (int t = 0; t < bends.length; t++) {
            Check.eq("nearerAt(" + t + ")", x.nearerAt(t), bends[t]);
        }
        Check.yes("nearer() leaves the valley as it is", Check.land(x).equals(before));
    }

    private static void whoComesNearer() {
        String text = "town a 10;town b 20;term a 5 5 fast 9;term b 6 6 fast 9;";
        // Round by round a first: 11 and 19, 12 and 18, .. 15 and 15.
        nearer(Check.valleyOn(4, text), 6, -5, 5);
        nearer(Check.valleyOn(5, text), 11, 0, 10);
        nearer(Check.valleyOn(6, text), 11, -10, 0);
        SundialTreaty x = Check.valley("town a 10;town b 20;town c 13;");
        x.shade(0);
        nearer(x, 5, 0, 4, -3);
        SundialTreaty y = Check.valley("town a 10;town b 20;");
        y.bend(0, 1);
        nearer(y, 7, -5, 5);
    }

    private static void theOthers() {
        nearer(Check.valley("town a 10;"), 1, 0);
        nearer(Check.valley(""), 1);
        SundialTreaty x = Check.valley("town a 10;town b 20;");
        x.shade(0);
        nearer(x, 1, 0, 0);
        // As they are then: b sees that a has come nearer already.
        nearer(Check.valley("town a 10;town b 11;"), 2, -1, 0);
        nearer(Check.valley("town a 11;town b 10;"), 2, 1, 0);
        // Shaded ones are not counted: a's others are b, c and d, at 20, 30 and 40.
        SundialTreaty y = Check.valley("town a 50;town b 20;town c 30;town d 40;town e 0;town f 1;term b 0 0 fast 0;"
                + "term c 0 0 fast 0;term d 0 0 fast 0;");
        y.shade(4);
        y.shade(5);
        nearer(y, 21, 20, 0, 0, 0, 0, 0);
        // Its own noon is not counted: the others' one noon is the least of like ones.
        nearer(Check.valley("town a 30;town b 10;town c 20;term b 0 0 fast 0;term c 0 0 fast 0;"), 21, 20, 0, 0);
    }

    private static void mayComeNearer() {
        nearer(Check.valley("town a 0;town b 60;term a 0 0 fast 0;"), 31, 0, 30);
        nearer(Check.valley("town a 60;town b 0;term a 0 0 fast 0;"), 31, 0, -30);
        nearer(Check.valley("town a 0;town b 30;term a 0 0 fast 0;"), 31, 0, 30);
        nearer(Check.valley("town a 0;town b 60 fast 30;term a 0 0 fast 0;"), 1, 0, 30);
        nearer(Check.valley("town a 60;town b 0 slow 30;term a 0 0 fast 0;"), 1, 0, -30);
        nearer(Check.valley("town a 5;town b 5;"), 1, 0, 0);
        // It is not bent to and fro: what is not off stays.
        nearer(Check.valley("town a 5;town b 6 fast 1;town c 5;"), 1, 0, 1, 0);
    }

    private static void sixtyRounds() {
        nearer(Check.valley("town a 0;town b 60 slow 30;term a 0 0 fast 0;"), 60, 0, 30);
        nearer(Check.valley("town a 0;town b 29 slow 30;term a 0 0 fast 0;"), 60, 0, 29);
        nearer(Check.valley("town a 0;town b 28 slow 30;term a 0 0 fast 0;"), 59, 0, 28);
        nearer(Check.valley("town a 0 fast 30;town b 30 slow 30;term a 0 0 fast 0;"), 60, 30, 30);
    }

    private static void rounds() {
        nearer(Check.valley("town a 5;town b 5;"), 1, 0, 0);
        nearer(Check.valley("town a 0;town b 1;term a 0 0 fast 0;"), 2, 0, 1);
        nearer(Check.valley("town a 0;town b 2;term a 0 0 fast 0;"), 3, 0, 2);
    }

    private static void nearerAt() {
        SundialTreaty x = Check.valley("town a 10;town b 20;");
        Check.noneAndStays("nearerAt(0) ahead of any", x, () -> x.nearerAt(0));
        nearer(x, 6, -5, 5);
        int[] wrong = {-1, 2, 6, 7, LEAST, MOST};
        for (int t : wrong) {
            Check.noneAndStays("nearerAt(" + t + ")", x, () -> x.nearerAt(t));
        }
        x.bend(0, 3);
        x.days(3);
        x.undo();
        Check.eq("nearerAt(0) stays till the next nearer()", x.nearerAt(0), -5);
        x.shade(0);
        nearer(x, 1, 3, 0);
        // A choice (NOTES.md): it knows the towns of that nearer(), whatever valley there is now.
        Texts.VALLEY.read(x, "");
        Check.eq("nearerAt(0) in an empty valley", x.nearerAt(0), 3);
        Texts.VALLEY.read(x, Texts.towns(3));
        Check.none("nearerAt(2) in a larger one", () -> x.nearerAt(2));
        SundialTreaty y = new SundialTreaty();
        Check.eq("nearer() without towns", y.nearer(), 1);
        Check.none("nearerAt(0) without towns", () -> y.nearerAt(0));
    }
}
