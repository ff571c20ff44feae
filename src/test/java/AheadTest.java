/** Promises 21, 22, 30 and 31: when terms will be kept, who breaks most, right days, turns. */
final class AheadTest {
    public static void main(String[] args) {
        kept();
        keptWithinTwoHundred();
        worst();
        right();
        turns();
        Check.finish("AheadTest");
    }

    private static void kept() {
        Check.eq("kept() without towns", new SundialTreaty().kept(), 0);
        SundialTreaty x = Check.valley("town a 0 fast 20;town b 0;term a 1 6 fast 0;term b 4 4 slow 3;limit 6;");
        Check.eq("kept() ahead of the term", x.kept(), 0);
        x.bend(0, 6);
        x.days(1);
        // 26: 20, 14, 8 (b keeps day 4 at once), 2, 0
        Check.eq("kept() on day 1", x.kept(), 5);
        Check.eq("all stays", x.now(0) * 100 + x.town(0, 1), 126);
        Check.eq("bent today", x.bend(0, -2), 0);
        // 24: 18, 12, 6, 0 on day 4, on which b is bent, too; a dial bent today counts as not bent
        Check.eq("kept() on day 1 when bent", x.kept(), 4);
        x.shade(0);
        Check.eq("kept() of a shaded one", x.kept(), 4);
        x.days(6);
        Check.eq("kept() behind the terms", x.kept(), 7);
        Check.toDay(x, 400);
        Check.eq("kept() behind all days", x.kept(), -1);
        SundialTreaty y = Check.valleyOn(399, "town a 0;term a 399 399 fast 2;limit 1;");
        Check.eq("kept() not by the last day", y.kept(), -1);
        y.bend(0, 1);
        Check.eq("kept() by the last day", y.kept(), 399);
    }

    /** The dial swings to and fro and never comes to its due till the last of these terms. */
    private static void keptWithinTwoHundred() {
        String swings = "town a 0 slow 30;limit 1;term a 0 39 fast 30;term a 40 78 slow 30;"
                + "term a 79 118 fast 30;term a 119 157 slow 30;term a 158 399 fast ";
        Check.eq("kept() on the 200th day", Check.valley(swings + "14;").kept(), 199);
        Check.eq("kept() on the 201st day", Check.valley(swings + "15;").kept(), -1);
    }

    private static void worst() {
        SundialTreaty x = Check.valley("town a 0;town b 0;town c 0;term a 3 4 fast 1;term b 5 8 fast 1;term c 0 3 fast 1;"
                + "term a 397 399 slow 1;");
        Check.eq("worst(0)", x.worst(0), -1);
        Check.eq("worst(61)", x.worst(61), -1);
        Check.eq("worst(-1)", x.worst(-1), -1);
        Check.eq("worst(1)", x.worst(1), 2);
        Check.eq("worst(60): c and b alike, the first", x.worst(60), 1);
        Check.eq("worst(8)", x.worst(8), 2);
        x.shade(1);
        Check.eq("worst(60) with b shaded", x.worst(60), 2);
        x.days(3);
        Check.eq("worst(60) from day 3 on", x.worst(60), 0);
        Check.eq("worst(1): a and c alike, the first", x.worst(1), 0);
        x.clear(1);
        x.days(3);
        Check.eq("worst(2) from day 6 on", x.worst(2), 1);
        x.days(3);
        Check.eq("worst(60) of none", x.worst(60), -1);
        Check.toDay(x, 369);
        Check.eq("worst(60) to day 400", x.worst(60), 0);
        Check.eq("all stays", x.now(0), 369);
        x.days(60);
        Check.eq("worst(60) behind all days", x.worst(60), -1);
        Check.eq("worst(5) without towns", new SundialTreaty().worst(5), -1);
    }

    private static void right() {
        SundialTreaty x = Check.valley("town a 0;town b 0;term a 2 5 fast 1;term a 0 9 slow 0;term a 390 399 fast 0;");
        Check.eq("right(0, 0)", x.right(0, 0), -1);
        Check.eq("right(0, 61)", x.right(0, 61), -1);
        Check.eq("right(2, 5)", x.right(2, 5), -1);
        Check.eq("right(-1, 5)", x.right(-1, 5), -1);
        Check.eq("right(0, 1)", x.right(0, 1), 1);
        Check.eq("right(0, 6)", x.right(0, 6), 2);
        Check.eq("right(0, 60)", x.right(0, 60), 6);
        Check.eq("right(1, 60) without a due", x.right(1, 60), 0);
        x.bend(0, 3);
        x.days(9);
        Check.eq("right(0, 60) from day 9 on", x.right(0, 60), 1);
        Check.toDay(x, 395);
        Check.eq("right(0, 4)", x.right(0, 4), 4);
        Check.eq("right(0, 60) to day 399", x.right(0, 60), 5);
        x.days(5);
        Check.eq("right(0, 60) behind all days", x.right(0, 60), 0);
    }

    private static void turns() {
        SundialTreaty x = Check.valley("town a 0;town b 0;town c 0;term a 0 4 fast 1;term a 5 9 fast 1;term a 8 20 slow 1;"
                + "term b 3 399 fast 0;term c 399 399 fast 2;");
        Check.eq("turns(3)", x.turns(3), -1);
        Check.eq("turns(-1)", x.turns(-1), -1);
        Check.eq("turns(0) on day 0", x.turns(0), 0);
        Check.eq("turns(1) from none to 0", x.turns(1), 3);
        x.days(1);
        Check.eq("turns(0) on day 1", x.turns(0), 10);
        x.days(9);
        Check.eq("turns(0) on day 10", x.turns(0), 10);
        Check.eq("turns(1) on day 10", x.turns(1), -1);
        x.days(1);
        Check.eq("turns(0) to none", x.turns(0), 21);
        x.days(11);
        Check.eq("turns(0) on day 22", x.turns(0), -1);
        Check.eq("turns(2)", x.turns(2), 399);
        Check.toDay(x, 399);
        Check.eq("turns(2) on day 399", x.turns(2), 399);
        x.days(1);
        Check.eq("turns(2) behind all days", x.turns(2), -1);
    }
}
