/** Promises 40 and 41: images. */
final class ImageTest {
    public static void main(String[] args) {
        wrong();
        allIsKept();
        likeValleys();
        lastAnswersStay();
        withoutSentence();
        Check.finish("ImageTest");
    }

    private static void wrong() {
        SundialTreaty x = Check.valley("town a 1;");
        for (int k : new int[] {-1, 2, Integer.MIN_VALUE, Integer.MAX_VALUE}) {
            Check.no("image(" + k + ")", x.image(k));
            Check.no("restore(" + k + ")", x.restore(k));
        }
        Check.no("restore(0) of nothing", x.restore(0));
        Check.no("restore(1) of nothing", x.restore(1));
        x.days(1);
        Check.yes("image(1)", x.image(1));
        Check.no("restore(0) of nothing", x.restore(0));
        Check.eq("undo() when not restored", x.undo(), 0);
        Check.yes("restore(1)", x.restore(1));
        Check.eq("the day", x.now(0), 1);
        Check.eq("undo() when restored", x.undo(), -1);
    }

    private static void allIsKept() {
        SundialTreaty x = Check.valley("town ada 20 fast 5;town bel 30;term ada 0 399 slow 1;train k bel ada 7 9;limit 4;change 5;frost 6;");
        Check.tape(x, "breach and fast > 0");
        x.sentence();
        x.bend(0, 4);
        x.shade(1);
        x.days(2);
        x.freeze();
        x.bend(1, -2);
        String was = Check.land(x);
        Check.yes("image(0)", x.image(0));
        x.days(9);
        x.clear(1);
        Check.tape(x, "town c 1;town d 2;town e 3;term e 0 0 fast 1;limit 9;");
        x.valley();
        Check.tape(x, "right");
        x.sentence();
        String second = Check.land(x);
        Check.yes("image(1)", x.image(1));
        x.bend(0, 3);
        Check.yes("restore(0)", x.restore(0));
        Check.yes("all is as it was: " + Check.land(x), Check.land(x).equals(was));
        Check.eq("undo()", x.undo(), -1);
        x.freeze();
        Check.tape(x, "right");
        x.sentence();
        Check.yes("restore(0) again", x.restore(0));
        Check.yes("the image did not change: " + Check.land(x), Check.land(x).equals(was));
        Check.yes("restore(1)", x.restore(1));
        Check.yes("the other image: " + Check.land(x), Check.land(x).equals(second));
        x.days(3);
        Check.yes("image(0) anew", x.image(0));
        x.days(3);
        x.restore(0);
        Check.eq("the day", x.now(0), 3);
        Check.tape(x, "town e 3;");
        Check.eq("valley()", x.valley(), 1);
        x.restore(1);
        Check.eq("names are kept", motto(x, 2).equals("e counts right") ? 1 : 0, 1);
    }

    /** Valleys and sentences of the same size, so that each row of them must be kept. */
    private static void likeValleys() {
        SundialTreaty x = Check.valley("town a 1 fast 2;town b 3 slow 4;town c 5;term a 5 60 fast 7;term b 100 300 slow 8;"
                + "train k a b 9 10;train l b c 11 12;limit 2;change 3;frost 4;");
        Check.tape(x, "number > 0 and number < 2");
        x.sentence();
        x.bend(0, 2);
        x.shade(2);
        String was = Check.land(x);
        x.image(0);
        Check.tape(x, "town d 20 slow 12;town e 13;town f 15 fast 1;term e 45 90 slow 17;term d 110 350 fast 18;term f 0 0 fast 1;"
                + "train m e d 19 20;train n f e 21 22;limit 5;change 6;frost 7;");
        x.valley();
        Check.tape(x, "number < 1 or number = 2");
        x.sentence();
        x.days(57);
        String second = Check.land(x);
        x.image(1);
        for (int i = 0; i < 3; i++) {
            x.restore(0);
            Check.yes("the first: " + Check.land(x), Check.land(x).equals(was));
            x.restore(1);
            Check.yes("the second: " + Check.land(x), Check.land(x).equals(second));
        }
        Check.tape(x, "shade e;");
        Check.eq("names are kept", x.book(0), -1);
        x.restore(0);
        Check.tape(x, "shade e;");
        Check.eq("names are kept", x.book(0), -8);
    }

    private static void lastAnswersStay() {
        SundialTreaty x = Check.valley("town a 0 fast 3;town b 9;train k a b 3 4;train l b a 1 1;");
        x.image(0);
        x.even();
        x.nearer();
        x.route(0, 1, 0);
        x.motto(0);
        Check.tape(x, "shade a;shade a;");
        x.book(1);
        Check.tape(x, "wrong");
        x.sentence();
        x.feed(1, 2, 3, 4, 5);
        int near = x.nearerAt(1);
        x.restore(0);
        Check.eq("evenAt(1)", x.evenAt(1), -3);
        Check.eq("nearerAt(1)", x.nearerAt(1), near);
        Check.eq("routeAt(0)", x.routeAt(0), 0);
        Check.eq("byteAt(0)", x.byteAt(0), 'a');
        Check.eq("told(0)", x.told(0), 11);
        Check.eq("fault()", x.fault(), 1);
        Check.eq("the tape", x.count(6), 20);
        Check.eq("shaded", x.now(3), 0);
    }

    private static void withoutSentence() {
        SundialTreaty x = Check.valley("town a 0;");
        x.image(0);
        Check.tape(x, "right");
        x.sentence();
        Check.eq("said(-1)", x.said(-1), 1);
        x.image(1);
        x.restore(0);
        Check.eq("said(-1) as kept", x.said(-1), -1);
        Check.tape(x, "");
        x.valley();
        x.restore(1);
        Check.eq("said(-1) as kept", x.said(-1), 1);
    }

    private static String motto(SundialTreaty x, int t) {
        StringBuilder text = new StringBuilder();
        int n = x.motto(t);
        for (int i = 0; i < n; i++) {
            text.append((char) x.byteAt(i));
        }
        return text.toString();
    }
}
