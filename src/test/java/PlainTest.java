import java.util.ArrayList;
import java.util.List;
import java.util.Random;

/**
 * Random valleys: what the class finds by short ways must be what is found here by trying all
 * (promises 17 to 25, 27 to 31), from what town(), due() and train() tell alone.
 */
final class PlainTest {
    private static final int NO = 9999;

    private static SundialTreaty x;
    private static int towns;
    private static int day;
    private static int[] noon;
    private static int[] bend;
    private static boolean[] shaded;
    private static String text;
    private static int bestThere;
    private static List<Integer> best;

    public static void main(String[] args) {
        Random random = new Random(20261118);
        for (int i = 0; i < 3000; i++) {
            make(random);
            look();
            noons();
            even(random);
            nearer();
            days(random);
            votes(random);
            routes(random);
        }
        Check.finish("PlainTest");
    }

    private static String way(Random random) {
        return random.nextBoolean() ? "fast " : "slow ";
    }

    private static void make(Random random) {
        StringBuilder all = new StringBuilder();
        int n = 1 + random.nextInt(7);
        for (int t = 0; t < n; t++) {
            all.append("town ").append((char) ('a' + t)).append(' ').append(random.nextInt(61));
            if (random.nextInt(3) != 0) {
                all.append(' ').append(way(random)).append(1 + random.nextInt(30));
            }
            all.append(';');
        }
        int terms = random.nextInt(13);
        int span = random.nextBoolean() ? 400 : 20;
        for (int i = 0; i < terms; i++) {
            int from = random.nextInt(span);
            all.append("term ").append((char) ('a' + random.nextInt(n))).append(' ').append(from).append(' ')
                    .append(from + random.nextInt(Math.min(400 - from, span))).append(' ').append(way(random))
                    .append(random.nextInt(random.nextBoolean() ? 31 : 3)).append(';');
        }
        int trains = n < 2 ? 0 : random.nextInt(9);
        int spread = random.nextBoolean() ? 600 : 60;
        for (int k = 0; k < trains; k++) {
            int from = random.nextInt(n);
            int to = (from + 1 + random.nextInt(n - 1)) % n;
            all.append("train t").append((char) ('a' + k)).append(' ').append((char) ('a' + from)).append(' ')
                    .append((char) ('a' + to)).append(' ').append(5 * random.nextInt(spread / 5)).append(' ')
                    .append(5 + 5 * random.nextInt(random.nextBoolean() ? 40 : 3)).append(';');
        }
        all.append("limit ").append(1 + random.nextInt(10)).append(";change ").append(random.nextInt(6)).append(';');
        text = all.toString();
        x = Check.valley(text);
        int seed = random.nextInt();
        if (random.nextBoolean()) {
            x.drawn(1 + random.nextInt(60), seed);
        }
        if (random.nextInt(4) == 0) {
            for (int i = random.nextInt(7); i > 0; i--) {
                x.days(60);
            }
        }
    }

    private static void look() {
        towns = x.count(0);
        day = x.now(0);
        noon = new int[towns];
        bend = new int[towns];
        shaded = new boolean[towns];
        for (int t = 0; t < towns; t++) {
            noon[t] = x.town(t, 0);
            bend[t] = x.town(t, 1);
            shaded[t] = x.town(t, 2) == 1;
        }
    }

    private static int due(int t, int on) {
        return Check.orThrown(() -> x.due(t, on), NO);
    }

    private static int oneNoon(int[] bends, int but) {
        int found = NO;
        int least = Integer.MAX_VALUE;
        for (int m = -100; m <= 200; m++) {
            int off = 0;
            int counted = 0;
            for (int t = 0; t < towns; t++) {
                if (!shaded[t] && t != but) {
                    off += Math.abs(noon[t] - bends[t] - m);
                    counted++;
                }
            }
            if (counted > 0 && off < least) {
                least = off;
                found = m;
            }
        }
        return found;
    }

    private static void noons() {
        int first = NO;
        int last = -NO;
        for (int t = 0; t < towns; t++) {
            if (!shaded[t]) {
                first = Math.min(first, noon[t] - bend[t]);
                last = Math.max(last, noon[t] - bend[t]);
            }
        }
        int sum = 0;
        int off = 0;
        for (int b : bend) {
            sum += b;
            off += Math.abs(b);
        }
        Check.eq("now(1) of " + text, x.now(1), sum);
        Check.eq("now(6) of " + text, x.now(6), off);
        Check.eq("noonLong() of " + text, Check.orThrown(x::noonLong, NO), first == NO ? NO : last - first);
        Check.eq("oneNoon() of " + text, Check.orThrown(x::oneNoon, NO), oneNoon(bend, -1));
    }

    /** Trying all is dear: least[t][s] is the fewest minutes of the towns from t on to a sum of s. */
    private static void even(Random random) {
        int middle = 30 * 7;
        int[][] least = new int[towns + 1][2 * middle + 1];
        for (int[] row : least) {
            java.util.Arrays.fill(row, NO);
        }
        least[towns][middle] = 0;
        for (int t = towns - 1; t >= 0; t--) {
            boolean isFree = due(t, day) == NO;
            for (int s = -middle; s <= middle; s++) {
                for (int end = isFree ? -30 : bend[t]; end <= (isFree ? 30 : bend[t]); end++) {
                    int rest = s - end;
                    if (rest >= -middle && rest <= middle && least[t + 1][rest + middle] != NO) {
                        least[t][s + middle] = Math.min(least[t][s + middle],
                                Math.abs(end - bend[t]) + least[t + 1][rest + middle]);
                    }
                }
            }
        }
        int want = least[0][middle];
        Check.eq("even() of " + text, x.even(), want == NO ? -1 : want);
        if (want == NO) {
            return;
        }
        int s = 0;
        for (int t = 0; t < towns; t++) {
            int by = 0;
            // The fewest minutes either way with which the rest can still be as few as told.
            for (int d = 0; d <= 60; d++) {
                int up = rest(least, t, s, d, middle, want);
                int down = rest(least, t, s, -d, middle, want);
                if (up == want || down == want) {
                    by = up == want ? d : -d;
                    break;
                }
            }
            Check.eq("evenAt(" + t + ") of " + text, x.evenAt(t), by);
            want -= Math.abs(by);
            s -= bend[t] + by;
        }
    }

    private static int rest(int[][] least, int t, int s, int d, int middle, int want) {
        boolean isFree = due(t, day) == NO;
        int end = bend[t] + d;
        int rest = s - end + middle;
        if (d != 0 && (!isFree || Math.abs(end) > 30) || rest < 0 || rest > 2 * middle) {
            return NO;
        }
        return Math.abs(d) + least[t + 1][rest];
    }

    private static void nearer() {
        int[] bends = bend.clone();
        int rounds = 0;
        boolean moved = true;
        while (moved && rounds < 60) {
            moved = false;
            rounds++;
            for (int t = 0; t < towns; t++) {
                if (due(t, day) != NO || shaded[t]) {
                    continue;
                }
                int goal = oneNoon(bends, t);
                if (goal == NO) {
                    continue;
                }
                int own = noon[t] - bends[t];
                for (int way = -1; way <= 1; way += 2) {
                    if (Math.abs(own - way - goal) < Math.abs(own - goal) && Math.abs(bends[t] + way) <= 30) {
                        bends[t] += way;
                        moved = true;
                        break;
                    }
                }
            }
        }
        Check.eq("nearer() of " + text, x.nearer(), rounds);
        for (int t = 0; t < towns; t++) {
            Check.eq("nearerAt(" + t + ") of " + text, x.nearerAt(t), bends[t]);
        }
    }

    private static void days(Random random) {
        int n = 1 + random.nextInt(60);
        int worst = -1;
        int most = 0;
        for (int t = 0; t < towns; t++) {
            int more = 0;
            int right = 0;
            int turns = -1;
            for (int d = day; d < 400; d++) {
                int due = due(t, d);
                if (d < day + n) {
                    more += due != NO && due != bend[t] && !shaded[t] ? 1 : 0;
                    right += due == 0 ? 1 : 0;
                }
                if (turns < 0 && due != (d == 0 ? NO : due(t, d - 1))) {
                    turns = d;
                }
            }
            Check.eq("right(" + t + ", " + n + ") of " + text, x.right(t, n), right);
            Check.eq("turns(" + t + ") of " + text, x.turns(t), turns);
            if (more > most) {
                most = more;
                worst = t;
            }
        }
        Check.eq("worst(" + n + ") of " + text, x.worst(n), worst);
        Check.eq("kept() of " + text, x.kept(), kept());
    }

    private static int kept() {
        int[] bends = bend.clone();
        for (int d = day; d < day + 200 && d < 400; d++) {
            boolean isKept = true;
            for (int t = 0; t < towns; t++) {
                int due = due(t, d);
                for (int i = 0; i < x.count(3) && due != NO && bends[t] != due; i++) {
                    bends[t] += due > bends[t] ? 1 : -1;
                }
                isKept = isKept && (due == NO || due == bends[t]);
            }
            if (isKept) {
                return d;
            }
        }
        return -1;
    }

    private static void votes(Random random) {
        int t = random.nextInt(towns);
        int m = random.nextInt(121) - 60;
        int want = 0;
        for (int u = 0; u < towns; u++) {
            int was = Math.abs(noon[t] - bend[t] - (noon[u] - bend[u]));
            int is = Math.abs(noon[t] - bend[t] - m - (noon[u] - bend[u]));
            want += is < was ? 1 : 0;
            want -= is > was ? 1 : 0;
        }
        Check.eq("votes(" + t + ", " + m + ") of " + text, x.votes(t, m), want);
    }

    private static void routes(Random random) {
        for (int i = 0; i < 6 && towns > 1; i++) {
            int a = random.nextInt(towns);
            int b = (a + 1 + random.nextInt(towns - 1)) % towns;
            int m = random.nextInt(random.nextBoolean() ? 60 : 400);
            bestThere = NO;
            best = new ArrayList<>();
            tryAll(a, b, m, new ArrayList<>());
            String call = "route(" + a + ", " + b + ", " + m + ") of " + text;
            Check.eq(call, x.route(a, b, m), bestThere == NO ? -1 : bestThere);
            for (int k = 0; bestThere != NO && k <= best.size(); k++) {
                Check.eq("routeAt(" + k + ") of " + call, x.routeAt(k), k < best.size() ? best.get(k) : -1);
            }
        }
    }

    private static void tryAll(int at, int goal, int ready, List<Integer> path) {
        if (at == goal) {
            int there = x.train(path.get(path.size() - 1), 5);
            if (isBetter(there, path)) {
                bestThere = there;
                best = new ArrayList<>(path);
            }
        }
        // From the highest on, so that an order of trying can't stand for the order asked for.
        for (int k = x.count(2) - 1; k >= 0; k--) {
            if (!path.contains(k) && x.train(k, 0) == at && x.train(k, 4) >= ready) {
                path.add(k);
                tryAll(x.train(k, 1), goal, x.train(k, 5) + x.count(4), path);
                path.remove(path.size() - 1);
            }
        }
    }

    private static boolean isBetter(int there, List<Integer> path) {
        if (there != bestThere) {
            return there < bestThere;
        }
        if (path.size() != best.size()) {
            return path.size() < best.size();
        }
        for (int i = 0; i < path.size(); i++) {
            if (!path.get(i).equals(best.get(i))) {
                return path.get(i) < best.get(i);
            }
        }
        return false;
    }
}
