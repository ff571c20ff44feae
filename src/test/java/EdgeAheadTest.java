/** KEPT and DRAWN, promises 21, 22, 30, 31, 34 and 35: a test for each sentence that names an edge. */
final class EdgeAheadTest {
    private static final int LEAST = Integer.MIN_VALUE;
    private static final int MOST = Integer.MAX_VALUE;
    private static final int[] NOT_1_TO_60 = {0, -1, 61, 400, LEAST, MOST};
    private static final int[] NO_TOWN_OF_TWO = {-1, 2, 6, 7, LEAST, MOST};

    public static void main(String[] args) {
        Check.sentence("each TOWN with a DUE is bent towards it, as much as 'limit' lets it", EdgeAheadTest::bentTowards);
        Check.sentence("(as if it had not been bent today)", EdgeAheadTest::asIfNotBent);
        Check.sentence("the first DAY (200 at most, from now on) at whose end none is in BREACH", EdgeAheadTest::twoHundred);
        Check.sentence("KEPT: the DAY; NONE: not so soon.", EdgeAheadTest::notSoSoon);
        Check.sentence("The TOWN that would have most BREACHES more in n (1 to 60) DAYS from now on", EdgeAheadTest::worst);
        Check.sentence("(to DAY 400; of like ones the first)", EdgeAheadTest::worstOfLike);
        Check.sentence("NONE: none would have any, not as told.", EdgeAheadTest::noWorst);
        Check.sentence("On how many of n (1 to 60) DAYS from today on (to DAY 399) a TOWN's DUE is 0", EdgeAheadTest::right);
        Check.sentence("a TOWN's DUE is 0; NONE: no such ones.", EdgeAheadTest::noRight);
        Check.sentence("The DAY (the first one, today or later, to 399)", EdgeAheadTest::turns);
        Check.sentence("another one than on the DAY ahead of it (none, too; ahead of DAY 0 none)", EdgeAheadTest::turnsFromNone);
        Check.sentence("NONE: none is, no such one.", EdgeAheadTest::noTurns);
        Check.sentence("x becomes x * 1103515245 + 12345 (an int, wrapping), the draw is (x >>> 8) % n", EdgeAheadTest::wrapping);
        Check.sentence("a draw of 12: below 'frost': it FREEZES", EdgeAheadTest::frost);
        Check.sentence("0: it is bent by 1, 1: by -1 (if it can be)", EdgeAheadTest::bentIfItCanBe);
        Check.sentence("2: it is shaded, or cleared, if it was", EdgeAheadTest::shadedOrCleared);
        Check.sentence("n (1 to 60) DAYS DRAWN by a seed: how many went by", EdgeAheadTest::drawn);
        Check.sentence("NONE: not as told, no TOWNS.", EdgeAheadTest::notDrawn);
        Check.sentence("Of n (1 to 30) seeds x, x and 1, ..", EdgeAheadTest::odds);
        Check.sentence("has a BREACH more behind 20 DAYS DRAWN from now on", EdgeAheadTest::twentyDays);
        Check.sentence("behind 20 DAYS DRAWN from now on; NONE: no such ones.", EdgeAheadTest::noOdds);
        Check.finish("EdgeAheadTest");
    }

    private static void bentTowards() {
        for (int limit = 1; limit <= 10; limit++) {
            // 60 minutes to go: the last ones may be fewer than the limit.
            String text = "town a 0 slow 30;town b 0;term a 0 399 fast 30;limit " + limit + ";";
            Check.eq("kept() with limit " + limit, Check.valley(text).kept(), (60 + limit - 1) / limit - 1);
            String slow = "town a 0 fast 30;town b 0;term a 0 399 slow 30;limit " + limit + ";";
            Check.eq("kept() the other way", Check.valley(slow).kept(), (60 + limit - 1) / limit - 1);
        }
        Check.eq("all terms are kept", Check.valley("town a 0 fast 3;term a 0 0 fast 3;").kept(), 0);
        Check.eq("without terms", Check.valley(Texts.towns(7)).kept(), 0);
        Check.eq("without towns", new SundialTreaty().kept(), 0);
        // The slowest one counts; dials stay where they are when they are right.
        Check.eq("of two", Check.valley("town a 0;town b 0;term a 0 399 fast 3;term b 0 399 slow 10;limit 3;").kept(), 3);
        // A dial whose term is over stays where it is; a new term bends it from there.
        Check.eq("term by term", Check.valley("town a 0;term a 0 2 fast 9;term a 4 4 fast 9;term a 3 9 slow 30;limit 1;").kept(), 10);
        SundialTreaty x = Check.valley("town a 0 fast 4;town b 0;term a 0 9 fast 0;limit 2;");
        x.shade(0);
        Check.eqAndStays("kept() of a shaded one", x, x::kept, 1);
    }

    private static void asIfNotBent() {
        SundialTreaty x = Check.valley("town a 0 fast 9;term a 0 99 fast 0;limit 3;");
        Check.eq("kept()", x.kept(), 2);
        x.bend(0, -3);
        Check.eqAndStays("kept() when bent today", x, x::kept, 1);
        x.days(1);
        x.bend(0, -3);
        Check.eqAndStays("kept() when bent today, a day later", x, x::kept, 1);
        x.days(1);
        x.bend(0, -3);
        Check.eqAndStays("kept() when it is right", x, x::kept, 2);
    }

    private static void twoHundred() {
        // 59 days up to 29, 58 down to -29, 58 up to 29, then down again: on day d at 29 less (d - 174).
        for (int due = 0; due <= 10; due++) {
            int met = 174 + 29 + due;
            String text = "town a 0 slow 30;limit 1;term a 0 58 fast 30;term a 59 116 slow 30;term a 117 174 fast 30;"
                    + "term a 175 399 slow " + due + ";";
            for (int today = 0; today <= 20; today++) {
                SundialTreaty x = Check.valley(text);
                // The dial goes its way, day by day, so that only the day from which one looks on is another one.
                for (int day = 0; day < today; day++) {
                    x.bend(0, 1);
                    x.days(1);
                }
                Check.eq("kept() on day " + today + ", met on day " + met, x.kept(), met - today < 200 ? met : -1);
            }
        }
    }

    private static void notSoSoon() {
        SundialTreaty x = Check.valleyOn(399, "town a 0;term a 399 399 fast 6;limit 3;");
        Check.eqAndStays("kept() on the last day, too far", x, x::kept, -1);
        x.bend(0, 3);
        Check.eqAndStays("kept() on the last day, near enough", x, x::kept, 399);
        Check.eq("kept() on day 398", Check.valleyOn(398, "town a 0;term a 398 399 fast 7;limit 3;").kept(), -1);
        Check.eq("kept() on day 397", Check.valleyOn(397, "town a 0;term a 397 399 fast 7;limit 3;").kept(), 399);
        Check.eq("kept() on day 400", Check.valleyOn(400, "town a 0;").kept(), -1);
        // Two towns that are never right on one day, by turns.
        Check.eq("never at once", Check.valley("town a 0;limit 1;term a 0 0 fast 2;term a 1 1 slow 2;term a 2 2 fast 2;"
                + "term a 3 3 slow 2;term a 4 399 fast 30;").kept(), 33);
    }

    private static void worst() {
        SundialTreaty x = Check.valley("town a 0;town b 0;town c 0;term a 0 0 fast 1;term b 1 2 fast 1;term c 10 59 fast 1;"
                + "term a 60 60 fast 1;");
        Check.eqAndStays("worst(1)", x, () -> x.worst(1), 0);
        Check.eqAndStays("worst(2): alike", x, () -> x.worst(2), 0);
        Check.eqAndStays("worst(3)", x, () -> x.worst(3), 1);
        Check.eqAndStays("worst(12)", x, () -> x.worst(12), 1);
        Check.eqAndStays("worst(13)", x, () -> x.worst(13), 2);
        Check.eqAndStays("worst(60)", x, () -> x.worst(60), 2);
        x.days(1);
        x.bend(2, 1);
        Check.eqAndStays("worst(60) on day 1, c is right", x, () -> x.worst(60), 1);
        x.shade(1);
        Check.eqAndStays("worst(59) on day 1, b in the shade", x, () -> x.worst(59), -1);
        Check.eqAndStays("worst(60) on day 1, b in the shade", x, () -> x.worst(60), 0);
        // Breaches so far are none more.
        SundialTreaty y = Check.valleyOn(5, "town a 0;town b 0;term a 0 4 fast 1;term b 5 5 fast 1;");
        Check.eq("worst(60) behind a's breaches", y.worst(60), 1);
    }

    private static void worstOfLike() {
        SundialTreaty x = Check.valleyOn(398, "town a 0;town b 0;term a 399 399 fast 1;term b 398 399 fast 1;");
        Check.eqAndStays("worst(1) on day 398", x, () -> x.worst(1), 1);
        Check.eqAndStays("worst(2) on day 398", x, () -> x.worst(2), 1);
        Check.eqAndStays("worst(60) on day 398", x, () -> x.worst(60), 1);
        x.days(1);
        Check.eqAndStays("worst(60) on day 399: alike", x, () -> x.worst(60), 0);
        x.days(1);
        Check.eqAndStays("worst(60) on day 400", x, () -> x.worst(60), -1);
        Check.eq("all seven alike", Check.valley(Texts.towns(7) + "term b 0 9 fast 1;term g 0 9 fast 1;term e 0 9 fast 1;").worst(60), 1);
    }

    private static void noWorst() {
        SundialTreaty x = Check.valley("town a 0;town b 0;term b 60 60 fast 1;");
        Check.eqAndStays("worst(60) of none", x, () -> x.worst(60), -1);
        x.days(1);
        Check.eqAndStays("worst(59) of none", x, () -> x.worst(59), -1);
        Check.eqAndStays("worst(60)", x, () -> x.worst(60), 1);
        for (int n : NOT_1_TO_60) {
            Check.eqAndStays("worst(" + n + ")", x, () -> x.worst(n), -1);
        }
        Check.eq("worst(1) without towns", new SundialTreaty().worst(1), -1);
    }

    private static void right() {
        String text = "town a 0;town b 0;term a 0 0 fast 0;term a 1 1 fast 1;term a 2 70 slow 0;term a 396 399 fast 0;";
        SundialTreaty x = Check.valley(text);
        Check.eqAndStays("right(0, 1)", x, () -> x.right(0, 1), 1);
        Check.eqAndStays("right(0, 2)", x, () -> x.right(0, 2), 1);
        Check.eqAndStays("right(0, 3)", x, () -> x.right(0, 3), 2);
        Check.eqAndStays("right(0, 60)", x, () -> x.right(0, 60), 59);
        Check.eqAndStays("right(1, 60): a town without a due", x, () -> x.right(1, 60), 0);
        x.bend(0, 1);
        x.shade(0);
        Check.eq("right(0, 60): the dial itself does not count", x.right(0, 60), 59);
        Check.eq("right(0, 60) on day 11", Check.valleyOn(11, text).right(0, 60), 60);
        Check.eq("right(0, 60) on day 12", Check.valleyOn(12, text).right(0, 60), 59);
        Check.eq("right(0, 59) on day 340", Check.valleyOn(340, text).right(0, 59), 3);
        Check.eq("right(0, 60) on day 340", Check.valleyOn(340, text).right(0, 60), 4);
        Check.eq("right(0, 60) on day 398", Check.valleyOn(398, text).right(0, 60), 2);
        Check.eq("right(0, 1) on day 399", Check.valleyOn(399, text).right(0, 1), 1);
        Check.eq("right(0, 60) on day 400", Check.valleyOn(400, text).right(0, 60), 0);
    }

    private static void noRight() {
        SundialTreaty x = Check.valley("town a 0;town b 0;term a 0 399 fast 0;");
        for (int n : NOT_1_TO_60) {
            Check.eqAndStays("right(0, " + n + ")", x, () -> x.right(0, n), -1);
        }
        for (int t : NO_TOWN_OF_TWO) {
            Check.eqAndStays("right(" + t + ", 1)", x, () -> x.right(t, 1), -1);
        }
        Check.eq("right(0, 1) without towns", new SundialTreaty().right(0, 1), -1);
    }

    private static void turns() {
        String text = "town a 0;town b 0;term a 3 5 fast 1;term a 6 8 fast 2;term b 399 399 fast 1;";
        int[] turns = {3, 3, 3, 3, 6, 6, 6, 9, 9, 9, -1, -1};
        for (int day = 0; day < turns.length; day++) {
            SundialTreaty x = Check.valleyOn(day, text);
            Check.eqAndStays("turns(0) on day " + day, x, () -> x.turns(0), turns[day]);
            Check.eq("turns(1) on day " + day, x.turns(1), 399);
        }
        Check.eq("turns(1) on day 399", Check.valleyOn(399, text).turns(1), 399);
        Check.eq("turns(1) on day 400", Check.valleyOn(400, text).turns(1), -1);
    }

    private static void turnsFromNone() {
        // On day 0 a due is another one than none, 0 too.
        Check.eq("a due on day 0", Check.valley("town a 0;term a 0 5 fast 3;").turns(0), 0);
        Check.eq("a due of 0 on day 0", Check.valley("town a 0;term a 0 5 fast 0;").turns(0), 0);
        Check.eq("a due of 0 on day 1", Check.valley("town a 0;term a 1 5 fast 0;").turns(0), 1);
        Check.eq("from 0 to none", Check.valleyOn(2, "town a 0;term a 1 5 fast 0;").turns(0), 6);
        Check.eq("from fast 0 to slow 0 it does not turn", Check.valleyOn(1, "town a 0;term a 0 5 fast 0;term a 6 9 slow 0;").turns(0), 10);
        Check.eq("term by term alike", Check.valleyOn(1, "town a 0;term a 0 5 fast 4;term a 6 9 fast 4;").turns(0), 10);
        Check.eq("fast to slow", Check.valleyOn(1, "town a 0;term a 0 5 fast 4;term a 6 9 slow 4;").turns(0), 6);
    }

    private static void noTurns() {
        SundialTreaty x = Check.valley("town a 0;town b 0;term a 0 399 fast 0;");
        Check.eqAndStays("turns(1) without terms", x, () -> x.turns(1), -1);
        Check.eqAndStays("turns(0) on day 0", x, () -> x.turns(0), 0);
        x.days(1);
        Check.eqAndStays("turns(0) on day 1: to day 399 it does not", x, () -> x.turns(0), -1);
        for (int t : NO_TOWN_OF_TWO) {
            Check.eqAndStays("turns(" + t + ")", x, () -> x.turns(t), -1);
        }
        Check.eq("turns(0) without towns", new SundialTreaty().turns(0), -1);
    }

    private static void likeByHand(String text, int n, int seed) {
        SundialTreaty x = Check.valley(text);
        SundialTreaty y = Check.valley(text);
        Check.eq("drawn(" + n + ", " + seed + ")", x.drawn(n, seed), n);
        new DrawnByHand(seed).days(y, n);
        Check.yes("drawn(" + n + ", " + seed + ") of " + text, Check.all(x).equals(Check.all(y)));
    }

    private static void wrapping() {
        int[] seeds = {0, 1, -1, 12345, 2147483, -987654321, LEAST, LEAST + 1, MOST, MOST - 1};
        for (int seed : seeds) {
            likeByHand(Texts.HOME, 1, seed);
            likeByHand(Texts.HOME + "town d 3;town e 4 fast 2;town f 5;", 60, seed);
        }
        // 0 becomes 12345, and 12345 >>> 8 is 48.
        SundialTreaty x = Check.valley("town a 0;frost 1;");
        x.bend(0, 3);
        x.drawn(1, 0);
        Check.eq("the first draw by seed 0 is 0: frost", x.now(5), 1);
    }

    private static void frost() {
        for (int frost = 0; frost <= 12; frost++) {
            String text = "town a 0 fast 30;town b 0 slow 30;frost " + frost + ";";
            likeByHand(text, 40, 99);
        }
        SundialTreaty never = Check.valley("town a 0 fast 30;frost 0;");
        never.drawn(60, 7);
        Check.eq("frost 0: never", never.now(5), 0);
        SundialTreaty always = Check.valley("town a 0 fast 30;frost 12;");
        always.drawn(20, 7);
        Check.eq("frost 12: on each day", always.now(5), 20);
    }

    private static void bentIfItCanBe() {
        // At 30 it can't be bent on; without frost it comes to the edge and stays within it.
        for (int seed = 0; seed < 30; seed++) {
            likeByHand("town a 0 fast 30;town b 0 slow 30;town c 0 fast 29;town d 0 slow 29;frost 0;limit 1;", 60, seed);
        }
        // What was bent today already can't be again.
        for (int seed = 0; seed < 40; seed++) {
            SundialTreaty x = Check.valley("town a 0;town b 0;frost 0;");
            x.bend(0, 2);
            x.bend(1, -2);
            x.drawn(1, seed);
            Check.eq("bends by seed " + seed, x.town(0, 1) * 100 + x.town(1, 1), 198);
        }
    }

    private static void shadedOrCleared() {
        boolean shaded = false;
        boolean cleared = false;
        for (int seed = 0; seed < 60; seed++) {
            SundialTreaty x = Check.valley("town a 0;town b 0;frost 0;");
            x.shade(1);
            x.drawn(1, seed);
            DrawnByHand hand = new DrawnByHand(seed);
            hand.draw(12);
            int first = hand.draw(8);
            int second = hand.draw(8);
            Check.eq("a by seed " + seed, x.town(0, 2), first == 2 ? 1 : 0);
            Check.eq("b by seed " + seed, x.town(1, 2), second == 2 ? 0 : 1);
            shaded |= first == 2;
            cleared |= second == 2;
        }
        Check.yes("some were shaded, some cleared", shaded && cleared);
    }

    private static void drawn() {
        for (int n = 1; n <= 60; n++) {
            SundialTreaty x = Check.valley(Texts.HOME);
            Check.eq("drawn(" + n + ", 5)", x.drawn(n, 5), n);
            Check.eq("the day", x.now(0), n);
        }
        SundialTreaty y = Check.valleyOn(340, "town a 0;");
        Check.eq("drawn(60, 1) on day 340", y.drawn(60, 1), 60);
        Check.eq("the day", y.now(0), 400);
        Check.eqAndStays("drawn(60, 1) on day 400", y, () -> y.drawn(60, 1), 0);
        SundialTreaty z = Check.valleyOn(399, "town a 0;term a 0 399 fast 9;");
        Check.eq("drawn(60, 1) on day 399", z.drawn(60, 1), 1);
        Check.eq("the day", z.now(0), 400);
    }

    private static void notDrawn() {
        SundialTreaty x = Check.valley(Texts.HOME);
        for (int n : NOT_1_TO_60) {
            Check.eqAndStays("drawn(" + n + ", 1)", x, () -> x.drawn(n, 1), -1);
        }
        SundialTreaty y = new SundialTreaty();
        Check.eqAndStays("drawn(1, 1) without towns", y, () -> y.drawn(1, 1), -1);
        Check.eqAndStays("drawn(60, 1) without towns", y, () -> y.drawn(60, 1), -1);
        Check.eq("undo() of none", y.undo(), -1);
        SundialTreaty z = Check.valleyOn(400, "town a 0;");
        Check.eqAndStays("drawn(61, 1) on day 400", z, () -> z.drawn(61, 1), -1);
        SundialTreaty empty = Check.valleyOn(400, "");
        Check.eqAndStays("drawn(1, 1) on day 400 without towns", empty, () -> empty.drawn(1, 1), -1);
    }

    private static int oddsByHand(String text, int day, int t, int n, int seed) {
        int found = 0;
        for (int i = 0; i < n; i++) {
            SundialTreaty x = Check.valleyOn(day, text);
            int had = x.town(t, 4);
            x.drawn(20, seed + i);
            found += x.town(t, 4) > had ? 1 : 0;
        }
        return found;
    }

    private static void odds() {
        // In breach only when it was bent or has sprung: by some seeds it is, by others it is not.
        String text = "town a 0;town b 0 fast 3;term a 0 399 fast 0;term b 15 399 fast 3;frost 0;limit 1;";
        int[] seeds = {0, 3, -20, MOST - 10, MOST, LEAST};
        for (int seed : seeds) {
            for (int n : new int[] {1, 2, 29, 30}) {
                SundialTreaty x = Check.valley(text);
                int want = oddsByHand(text, 0, 1, n, seed);
                Check.eqAndStays("odds(1, " + n + ", " + seed + ")", x, () -> x.odds(1, n, seed), want);
            }
        }
        Check.yes("some seeds, not all", oddsByHand(text, 0, 1, 30, 0) > 0 && oddsByHand(text, 0, 1, 30, 0) < 30);
    }

    private static void twentyDays() {
        // In breach on day 19, or on day 20 alone: the twentieth day is the last one.
        String nineteen = "town a 0;town b 0;term a 19 19 fast 30;frost 0;limit 1;";
        String twenty = "town a 0;town b 0;term a 20 20 fast 30;frost 0;limit 1;";
        int want = oddsByHand(nineteen, 0, 0, 30, 1);
        Check.yes("in breach on day 19, but by seeds that shade it", want > 0);
        Check.eq("odds on day 0, breach on day 19", Check.valley(nineteen).odds(0, 30, 1), want);
        Check.eq("odds on day 0, breach on day 20", Check.valley(twenty).odds(0, 30, 1), 0);
        Check.eq("odds on day 1, breach on day 20", Check.valleyOn(1, twenty).odds(0, 30, 1), oddsByHand(twenty, 1, 0, 30, 1));
        Check.yes("it can be in breach then", Check.valleyOn(1, twenty).odds(0, 30, 1) > 0);
        String ever = "town a 0;term a 0 399 fast 30;frost 0;";
        Check.eq("breaches so far are none more", Check.valleyOn(400, ever).odds(0, 30, 1), 0);
        Check.eq("one day is left", Check.valleyOn(399, ever).odds(0, 30, 1), oddsByHand(ever, 399, 0, 30, 1));
        Check.eq("one day is enough", Check.valley(ever).odds(0, 30, 1), oddsByHand(ever, 0, 0, 30, 1));
    }

    private static void noOdds() {
        SundialTreaty x = Check.valley("town a 0;town b 0;term a 0 399 fast 30;");
        int[] wrong = {0, -1, 31, 60, LEAST, MOST};
        for (int n : wrong) {
            Check.eqAndStays("odds(0, " + n + ", 1)", x, () -> x.odds(0, n, 1), -1);
        }
        for (int t : NO_TOWN_OF_TWO) {
            Check.eqAndStays("odds(" + t + ", 1, 1)", x, () -> x.odds(t, 1, 1), -1);
        }
        Check.eq("odds(0, 1, 1) without towns", new SundialTreaty().odds(0, 1, 1), -1);
    }
}
