/** Promises 11 to 16: bending, shading, clearing, frost, days, and all of them undone. */
final class ActsTest {
    public static void main(String[] args) {
        bending();
        shading();
        freezing();
        days();
        undoing();
        undoKeepsEight();
        whatCantBeUndone();
        Check.finish("ActsTest");
    }

    private static void bending() {
        SundialTreaty x = Check.valley("town a 0 fast 28;town b 0 slow 29;town c 0;limit 4;");
        for (int m : new int[] {0, 11, -11, Integer.MIN_VALUE, Integer.MAX_VALUE}) {
            Check.eq("bend(0, " + m + ")", x.bend(0, m), -1);
        }
        Check.eq("bend(3, 1)", x.bend(3, 1), -1);
        Check.eq("bend(-1, 1)", x.bend(-1, 1), -1);
        Check.eq("bend(0, 5)", x.bend(0, 5), 2);
        Check.eq("bend(0, -5)", x.bend(0, -5), 2);
        Check.eq("bend(0, 3)", x.bend(0, 3), 3);
        Check.eq("bend(0, 10)", x.bend(0, 10), 2);
        Check.eq("bend(1, -2)", x.bend(1, -2), 3);
        Check.eq("nothing was bent", x.town(0, 7) + x.town(1, 7), 0);
        Check.eq("nothing can be undone", x.undo(), -1);
        Check.eq("bend(0, 2)", x.bend(0, 2), 0);
        Check.eq("bend(1, -1)", x.bend(1, -1), 0);
        Check.eq("a is fast", x.town(0, 1), 30);
        Check.eq("b is slow", x.town(1, 1), -30);
        Check.eq("bend(0, 10) again", x.bend(0, 10), 1);
        Check.eq("bend(0, 1) again", x.bend(0, 1), 1);
        Check.eq("bend(2, -4)", x.bend(2, -4), 0);
        x.days(1);
        Check.eq("bend(0, 1) on the next day", x.bend(0, 1), 3);
        Check.eq("bend(0, -4)", x.bend(0, -4), 0);
        Check.eq("a then", x.town(0, 1), 26);
        Check.eq("a shaded dial", x.shade(2), 0);
        Check.eq("is bent, too", x.bend(2, 4), 0);
        Check.toDay(x, 400);
        Check.eq("bend behind all days", x.bend(0, 1), 0);
        Check.eq("bend behind all days, again", x.bend(0, 1), 1);
    }

    private static void shading() {
        SundialTreaty x = Check.valley("town a 0;town b 0;");
        Check.eq("shade(2)", x.shade(2), -1);
        Check.eq("shade(-1)", x.shade(-1), -1);
        Check.eq("clear(2)", x.clear(2), -1);
        Check.eq("clear(-1)", x.clear(-1), -1);
        Check.eq("clear(0)", x.clear(0), 1);
        Check.eq("shade(0)", x.shade(0), 0);
        Check.eq("shade(0) again", x.shade(0), 1);
        Check.eq("shade(1)", x.shade(1), 0);
        Check.eq("shaded", x.now(3), 3);
        Check.eq("clear(0)", x.clear(0), 0);
        Check.eq("clear(0) again", x.clear(0), 1);
        Check.eq("shaded", x.now(3), 2);
        x.days(5);
        Check.eq("shaded days later", x.now(3), 2);
    }

    private static void freezing() {
        SundialTreaty x = Check.valley("town a 0 fast 2;town b 0 slow 1;town c 0;");
        x.shade(0);
        Check.eq("freeze()", x.freeze(), 2);
        Check.eq("a", x.town(0, 1), 1);
        Check.eq("b", x.town(1, 1), 0);
        Check.eq("freeze()", x.freeze(), 1);
        Check.eq("freeze()", x.freeze(), 0);
        Check.eq("a sprang", x.town(0, 5), 2);
        Check.eq("b sprang", x.town(1, 5), 1);
        Check.eq("c sprang", x.town(2, 5), 0);
        Check.eq("a was not bent by it", x.town(0, 7), 0);
    }

    private static void days() {
        SundialTreaty x = Check.valley("town a 0;town b 0;term a 2 3 fast 1;term b 399 399 slow 1;");
        for (int n : new int[] {0, 61, -1, Integer.MIN_VALUE, Integer.MAX_VALUE}) {
            Check.eq("days(" + n + ")", x.days(n), -1);
        }
        Check.eq("the day", x.now(0), 0);
        Check.eq("days(2)", x.days(2), 2);
        Check.eq("breaches ahead of the term", x.now(4), 0);
        Check.eq("days(1)", x.days(1), 1);
        Check.eq("breaches", x.now(4), 1);
        Check.eq("days(60)", x.days(60), 60);
        Check.eq("breaches", x.now(4), 2);
        for (int i = 0; i < 5; i++) {
            x.days(60);
        }
        Check.eq("the day", x.now(0), 363);
        Check.eq("days(38)", x.days(38), 37);
        Check.eq("the day", x.now(0), 400);
        Check.eq("breach on the last day", x.town(1, 4), 1);
        Check.eq("days(1)", x.days(1), 0);
        Check.eq("days(0)", x.days(0), -1);
        Check.eq("the day", x.now(0), 400);
    }

    private static void undoing() {
        SundialTreaty x = Check.valley("town a 9 fast 3;town b 9;term a 0 399 fast 0;limit 5;");
        String[] was = new String[8];
        was[0] = Check.land(x);
        x.bend(0, 5);
        was[1] = Check.land(x);
        x.shade(1);
        was[2] = Check.land(x);
        x.clear(1);
        was[3] = Check.land(x);
        x.freeze();
        was[4] = Check.land(x);
        x.days(7);
        was[5] = Check.land(x);
        x.drawn(9, 77);
        was[6] = Check.land(x);
        Check.tape(x, "day 1;bend a slow 2;shade b;clear a;");
        x.book(1);
        for (int left = 6; left >= 0; left--) {
            Check.eq("undo()", x.undo(), left);
            Check.yes("all is as it was ahead of act " + left + ": " + Check.land(x), Check.land(x).equals(was[left]));
        }
        Check.eq("undo() of nothing", x.undo(), -1);
        Check.yes("all stays", Check.land(x).equals(was[0]));
    }

    private static void undoKeepsEight() {
        SundialTreaty x = Check.valley("town a 9;");
        for (int i = 0; i < 12; i++) {
            x.days(1);
        }
        for (int left = 7; left >= 0; left--) {
            Check.eq("undo()", x.undo(), left);
            Check.eq("the day then", x.now(0), 4 + left);
        }
        Check.eq("undo() of a ninth", x.undo(), -1);
        Check.eq("the day", x.now(0), 4);
        x.days(2);
        Check.eq("undo() goes on", x.undo(), 0);
        Check.eq("the day", x.now(0), 4);
    }

    private static void whatCantBeUndone() {
        SundialTreaty x = Check.valley("town a 9;town b 3;term a 0 0 fast 1;train k a b 0 1;");
        x.bend(0, 9);
        x.bend(2, 1);
        x.clear(0);
        x.shade(2);
        x.days(0);
        x.drawn(0, 1);
        Check.tape(x, "shade a;");
        x.book(0);
        Check.tape(x, "shade c;");
        x.book(1);
        Check.tape(x, "right");
        x.sentence();
        x.even();
        x.nearer();
        x.kept();
        x.worst(5);
        x.odds(0, 30, 1);
        x.route(0, 1, 0);
        x.motto(0);
        x.image(0);
        Check.tape(x, "\u0000\u005b");
        x.shadows();
        Check.eq("undo()", x.undo(), -1);
        Check.toDay(x, 400);
        Check.eq("days over", x.days(3), 0);
        Check.eq("drawn over", x.drawn(3, 1), 0);
        Check.eq("undo()", x.undo(), 6);
        Check.eq("the day ahead of the last days", x.now(0), 360);
        x.freeze();
        Check.eq("undo() of a freeze() of none", x.undo(), 6);
        Check.tape(x, "");
        x.book(1);
        Check.eq("undo() of an empty book", x.undo(), 6);
        Check.eq("the sentence stays", x.said(-1), 2);
    }
}
