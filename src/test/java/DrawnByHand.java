/** The draws as the document tells them, and the days that they lead to, by the calls of the face alone. */
final class DrawnByHand {
    private int x;

    DrawnByHand(int seed) {
        x = seed;
    }

    int draw(int n) {
        x = x * 1103515245 + 12345;
        return (x >>> 8) % n;
    }

    /** How many days went by. */
    int days(SundialTreaty y, int n) {
        int gone = 0;
        for (int i = 0; i < n && y.now(0) < 400; i++) {
            if (draw(12) < y.count(5)) {
                y.freeze();
            }
            for (int t = 0; t < y.count(0); t++) {
                act(y, t, draw(8));
            }
            gone += y.days(1);
        }
        return gone;
    }

    private static void act(SundialTreaty y, int t, int drawn) {
        if (drawn == 0) {
            y.bend(t, 1);
        } else if (drawn == 1) {
            y.bend(t, -1);
        } else if (drawn == 2 && y.shade(t) == 1) {
            y.clear(t);
        }
    }
}
