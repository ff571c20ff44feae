/** Promises 26 and 27: breach by shadows, votes. */
final class ShadowTest {
    public static void main(String[] args) {
        shadows();
        wrongShadows();
        votes();
        Check.finish("ShadowTest");
    }

    private static SundialTreaty three() {
        return Check.valley("town a 20 fast 5;town b 0 slow 4;town c 26;term a 0 9 fast 5;term b 2 20 fast 30;term b 0 1 slow 4;");
    }

    private static void shadows() {
        SundialTreaty x = three();
        shadows(x, 0, 0, 85);
        shadows(x, 1, 0, 84);
        shadows(x, 3, 0, 86, 1, 97);
        shadows(x, 0, 0, 84, 0, 85);
        shadows(x, 1, 0, 85, 0, 84);
        shadows(x, 0, 2, 74);
        shadows(x, 0, 2, 104);
        shadows(x, 2, 1, 70);
        shadows(x, 2, 1, 130);
        shadows(x, 0, 1, 96);
        Check.eq("all stays", x.now(2), 0);
        x.bend(0, 1);
        shadows(x, 1, 1, 96);
        shadows(x, 0, 0, 85);
        x.shade(0);
        shadows(x, 1, 1, 96);
        x.days(2);
        // A byte above 127 is above 0.
        shadows(x, 0, 0, 85, 1, 130);
        shadows(x, 2, 0, 85, 1, 129);
        shadows(x, 2, 0, 85, 0, 85, 0, 85, 0, 85, 0, 85, 0, 85, 0, 85, 0, 85, 0, 85, 0, 85);
        x.days(60);
        shadows(x, 0, 0, 50, 1, 70);
    }

    private static void wrongShadows() {
        SundialTreaty x = three();
        shadows(x, -1);
        shadows(x, -1, 0);
        shadows(x, -1, 0, 84, 1);
        shadows(x, -1, 3, 100);
        shadows(x, -1, 255, 100);
        shadows(x, -1, 2, 43);
        shadows(x, 0, 2, 44);
        shadows(x, 0, 2, 104);
        shadows(x, -1, 2, 105);
        shadows(x, -1, 2, 200);
        shadows(x, -1, 0, 85, 2, 0);
        shadows(x, -1, 0, 84, 0, 85, 0, 85, 0, 85, 0, 85, 0, 85, 0, 85, 0, 85, 0, 85, 0, 85, 0, 85);
        shadows(new SundialTreaty(), -1, 0, 85);
        Check.eq("undo() of none", x.undo(), -1);
    }

    private static void shadows(SundialTreaty x, int want, int... bytes) {
        StringBuilder text = new StringBuilder();
        for (int b : bytes) {
            text.append((char) b);
        }
        Check.tape(x, text.toString());
        Check.eq("shadows() of " + java.util.Arrays.toString(bytes) + " on day " + x.now(0), x.shadows(), want);
        Check.eq("the tape is empty then", x.count(6), 0);
    }

    private static void votes() {
        SundialTreaty x = Check.valley("town a 20 fast 5;town b 30 slow 4;town c 26;");
        Check.eq("votes(0, 5)", x.votes(0, 5), -3);
        Check.eq("votes(0, -5)", x.votes(0, -5), 1);
        Check.eq("votes(0, 0)", x.votes(0, 0), 0);
        // From 15 to 37: nearer to 34, as far from 26 as it was.
        Check.eq("votes(0, -22)", x.votes(0, -22), 0);
        Check.eq("votes(0, -23)", x.votes(0, -23), -1);
        Check.eq("votes(0, -60)", x.votes(0, -60), -3);
        Check.eq("votes(2, 1)", x.votes(2, 1), -1);
        x.shade(1);
        Check.eq("votes(0, -5) with a shaded one", x.votes(0, -5), 1);
        x.shade(0);
        Check.eq("votes(0, -5), itself shaded", x.votes(0, -5), 1);
        Check.none("votes(0, 61)", () -> x.votes(0, 61));
        Check.none("votes(0, -61)", () -> x.votes(0, -61));
        Check.none("votes(3, 1)", () -> x.votes(3, 1));
        Check.none("votes(-1, 1)", () -> x.votes(-1, 1));
        Check.eq("votes(0, 60)", x.votes(0, 60), -3);
        Check.eq("all stays", x.town(0, 1), 5);
        Check.eq("votes of like ones", Check.valley("town a 3;town b 3;").votes(0, 1), -2);
    }
}
