import java.nio.charset.StandardCharsets;
import java.util.ArrayDeque;
import java.util.ArrayList;
import java.util.Arrays;
import java.util.Comparator;
import java.util.Deque;
import java.util.List;
import java.util.NoSuchElementException;
import java.util.Optional;

/**
 * The document built a second time, without a thought of time or room: what is the least or the
 * first of many is found by trying all. PlainTest holds the class to it.
 */
final class PlainTreaty {
    private static final int NONE = -1;

    /** All that changes from day to day. */
    private static final class Days {
        int day = 0;
        int[] bends = new int[7];
        boolean[] shaded = new boolean[7];
        boolean[] bent = new boolean[7];
        int[] breaches = new int[7];
        int[] sprung = new int[7];

        Days copy() {
            Days copy = new Days();
            copy.day = day;
            copy.bends = bends.clone();
            copy.shaded = shaded.clone();
            copy.bent = bent.clone();
            copy.breaches = breaches.clone();
            copy.sprung = sprung.clone();
            return copy;
        }
    }

    private record Kept(PlainText.Land land, Days days, PlainText.Saying saying) { }

    private record Told(int why, int lines, int day, int breaches) { }

    private StringBuilder tape = new StringBuilder();
    private PlainText.Land land = new PlainText.Land();
    private Days days = new Days();
    private PlainText.Saying saying = null;
    private final Deque<Days> before = new ArrayDeque<>();
    private final Kept[] images = new Kept[2];
    private int fault = 0;
    private int[] evened = {};
    private int[] nearerBends = {};
    private List<Integer> route = List.of();
    private String motto = "";
    private Told told = null;

    public int feed(int a, int b, int c, int d, int e) {
        if (tape.length() + 20 > 940) {
            return NONE;
        }
        for (int number : new int[] {a, b, c, d, e}) {
            for (int part = 3; part >= 0; part--) {
                tape.append((char) (number >> 8 * part & 0xff));
            }
        }
        return tape.length();
    }

    public boolean end(int n) {
        if (n < 0 || n > tape.length()) {
            return false;
        }
        tape.setLength(n);
        return true;
    }

    private String emptied() {
        String text = tape.toString();
        tape = new StringBuilder();
        return text;
    }

    public int valley() {
        try {
            land = PlainText.valley(emptied());
        } catch (PlainText.Fault wrong) {
            fault = wrong.kind;
            return -1 - wrong.place;
        }
        fault = 0;
        saying = null;
        before.clear();
        days = new Days();
        for (int t = 0; t < towns(); t++) {
            days.bends[t] = land.towns.get(t).bend();
        }
        return land.lines;
    }

    public int fault() {
        return fault;
    }

    private int towns() {
        return land.towns.size();
    }

    private static void mustBe(boolean isSo) {
        if (!isSo) {
            throw new NoSuchElementException();
        }
    }

    private boolean isTown(int t) {
        return t >= 0 && t < towns();
    }

    private boolean isTrain(int k) {
        return k >= 0 && k < land.trains.size();
    }

    private static boolean isFrom(int least, int n, int most) {
        return least <= n && n <= most;
    }

    private Optional<Integer> dueOn(int t, int day) {
        return land.terms.stream().filter(term -> term.town() == t && isFrom(term.from(), day, term.to()))
                .map(PlainText.Term::bend).findFirst();
    }

    private Optional<Integer> dueNow(int t) {
        return dueOn(t, days.day);
    }

    private boolean inBreach(int t) {
        return dueNow(t).isPresent() && dueNow(t).get() != days.bends[t];
    }

    private int dialNoon(int t) {
        return land.towns.get(t).noon() - days.bends[t];
    }

    public int town(int t, int what) {
        mustBe(isTown(t) && isFrom(0, what, 8));
        boolean[] flags = {days.shaded[t], inBreach(t), days.bent[t], dueNow(t).isPresent()};
        int[] all = {land.towns.get(t).noon(), days.bends[t], flags[0] ? 1 : 0, flags[1] ? 1 : 0, days.breaches[t],
            days.sprung[t], dialNoon(t), flags[2] ? 1 : 0, flags[3] ? 1 : 0};
        return all[what];
    }

    public int due(int t, int day) {
        mustBe(isTown(t) && isFrom(0, day, 399));
        return dueOn(t, day).orElseThrow(NoSuchElementException::new);
    }

    private int leaves(int k) {
        return land.trains.get(k).leaves() + dialNoon(land.trains.get(k).from());
    }

    private int comes(int k) {
        return leaves(k) + land.trains.get(k).takes();
    }

    public int train(int k, int what) {
        mustBe(isTrain(k) && isFrom(0, what, 6));
        PlainText.Train train = land.trains.get(k);
        int[] all = {train.from(), train.to(), train.leaves(), train.takes(), leaves(k), comes(k),
            comes(k) - dialNoon(train.to())};
        return all[what];
    }

    public int shows(int t, int m) {
        mustBe(isTown(t) && isFrom(0, m, 999) && !days.shaded[t]);
        return m - land.towns.get(t).noon() + days.bends[t];
    }

    private int breachBits() {
        int bits = 0;
        for (int t = 0; t < towns(); t++) {
            bits += inBreach(t) ? 1 << t : 0;
        }
        return bits;
    }

    public int now(int what) {
        mustBe(isFrom(0, what, 6));
        int shaded = 0;
        int off = 0;
        for (int t = 0; t < towns(); t++) {
            shaded += days.shaded[t] ? 1 << t : 0;
            off += Math.abs(days.bends[t]);
        }
        int[] all = {days.day, Arrays.stream(days.bends).sum(), breachBits(), shaded, Arrays.stream(days.breaches).sum(),
            Arrays.stream(days.sprung).sum(), off};
        return all[what];
    }

    private void canBeUndone(Days was) {
        before.addLast(was);
        if (before.size() > 8) {
            before.removeFirst();
        }
    }

    private int bent(int t, int m) {
        if (days.bent[t]) {
            return 1;
        }
        if (m > land.limit() || -m > land.limit()) {
            return 2;
        }
        if (days.bends[t] + m > 30 || days.bends[t] + m < -30) {
            return 3;
        }
        days.bends[t] += m;
        days.bent[t] = true;
        return 0;
    }

    private int shaded(int t, boolean isShaded) {
        if (days.shaded[t] == isShaded) {
            return 1;
        }
        days.shaded[t] = isShaded;
        return 0;
    }

    private int frozen() {
        int springs = 0;
        for (int t = 0; t < towns(); t++) {
            if (days.bends[t] != 0) {
                days.bends[t] += days.bends[t] > 0 ? -1 : 1;
                days.sprung[t]++;
                springs++;
            }
        }
        return springs;
    }

    private boolean dayGone() {
        if (days.day == 400) {
            return false;
        }
        for (int t = 0; t < towns(); t++) {
            days.breaches[t] += inBreach(t) && !days.shaded[t] ? 1 : 0;
        }
        days.day++;
        days.bent = new boolean[7];
        return true;
    }

    private int doneIf0(int answer, Days was) {
        if (answer == 0) {
            canBeUndone(was);
        }
        return answer;
    }

    public int bend(int t, int m) {
        Days was = days.copy();
        return isTown(t) && isFrom(-10, m, 10) && m != 0 ? doneIf0(bent(t, m), was) : NONE;
    }

    public int shade(int t) {
        Days was = days.copy();
        return isTown(t) ? doneIf0(shaded(t, true), was) : NONE;
    }

    public int clear(int t) {
        Days was = days.copy();
        return isTown(t) ? doneIf0(shaded(t, false), was) : NONE;
    }

    public int freeze() {
        canBeUndone(days.copy());
        return frozen();
    }

    public int days(int n) {
        if (!isFrom(1, n, 60)) {
            return NONE;
        }
        Days was = days.copy();
        for (int i = 0; i < n; i++) {
            dayGone();
        }
        return goneSince(was);
    }

    private int goneSince(Days was) {
        if (days.day > was.day) {
            canBeUndone(was);
        }
        return days.day - was.day;
    }

    public int undo() {
        if (before.isEmpty()) {
            return NONE;
        }
        days = before.removeLast();
        return before.size();
    }

    private List<Integer> dialNoons(int but) {
        List<Integer> noons = new ArrayList<>();
        for (int t = 0; t < towns(); t++) {
            if (t != but && !days.shaded[t]) {
                noons.add(dialNoon(t));
            }
        }
        return noons;
    }

    public int noonLong() {
        List<Integer> noons = dialNoons(NONE);
        mustBe(!noons.isEmpty());
        return noons.stream().max(Comparator.naturalOrder()).get() - noons.stream().min(Comparator.naturalOrder()).get();
    }

    public int oneNoon() {
        List<Integer> noons = dialNoons(NONE);
        mustBe(!noons.isEmpty());
        return oneNoonOf(noons);
    }

    /** No dial shows noon ahead of minute -30 or behind minute 90. */
    private static int oneNoonOf(List<Integer> noons) {
        int found = NONE;
        int least = Integer.MAX_VALUE;
        for (int m = -31; m <= 91; m++) {
            int off = 0;
            for (int noon : noons) {
                off += Math.abs(noon - m);
            }
            if (off < least) {
                least = off;
                found = m;
            }
        }
        return found;
    }

    public int even() {
        PlainEven all = new PlainEven(Arrays.copyOf(days.bends, towns()), t -> dueNow(t).isEmpty());
        if (all.fewest() < 0) {
            return NONE;
        }
        evened = all.first();
        return all.fewest();
    }

    public int evenAt(int t) {
        mustBe(isFrom(0, t, evened.length - 1));
        return evened[t];
    }

    public int kept() {
        Days was = days;
        days = days.copy();
        int found = NONE;
        for (int i = 0; i < 200 && days.day <= 399 && found == NONE; i++) {
            for (int t = 0; t < towns(); t++) {
                for (int minute = 0; minute < land.limit() && inBreach(t); minute++) {
                    days.bends[t] += dueNow(t).get() > days.bends[t] ? 1 : -1;
                }
            }
            found = breachBits() == 0 ? days.day : NONE;
            days.day++;
        }
        days = was;
        return found;
    }

    public int worst(int n) {
        if (!isFrom(1, n, 60)) {
            return NONE;
        }
        Days was = days;
        days = days.copy();
        for (int i = 0; i < n; i++) {
            dayGone();
        }
        int found = NONE;
        for (int t = towns() - 1; t >= 0; t--) {
            int more = days.breaches[t] - was.breaches[t];
            if (more > 0 && (found == NONE || more >= days.breaches[found] - was.breaches[found])) {
                found = t;
            }
        }
        days = was;
        return found;
    }

    public int spare(int i, int k) {
        mustBe(isTrain(i) && isTrain(k) && land.trains.get(i).to() == land.trains.get(k).from());
        return leaves(k) - comes(i) - land.change();
    }

    public int route(int a, int b, int m) {
        if (!isTown(a) || !isTown(b) || a == b || !isFrom(0, m, 999)) {
            return NONE;
        }
        List<List<Integer>> routes = new ArrayList<>();
        allRoutes(a, b, m, new ArrayList<>(), routes);
        if (routes.isEmpty()) {
            return NONE;
        }
        route = routes.stream().min(Comparator.<List<Integer>>comparingInt(this::there).thenComparingInt(List::size)
                .thenComparing(Object::toString)).get();
        return there(route);
    }

    private int there(List<Integer> trains) {
        return comes(trains.get(trains.size() - 1));
    }

    private void allRoutes(int at, int goal, int ready, List<Integer> path, List<List<Integer>> routes) {
        if (at == goal) {
            routes.add(List.copyOf(path));
        }
        for (int k = land.trains.size() - 1; k >= 0; k--) {
            if (!path.contains(k) && land.trains.get(k).from() == at && leaves(k) >= ready) {
                path.add(k);
                allRoutes(land.trains.get(k).to(), goal, comes(k) + land.change(), path, routes);
                path.remove(path.size() - 1);
            }
        }
    }

    public int routeAt(int k) {
        return isFrom(0, k, route.size() - 1) ? route.get(k) : NONE;
    }

    public int shadows() {
        byte[] bytes = emptied().getBytes(StandardCharsets.ISO_8859_1);
        if (bytes.length % 2 == 1 || !isFrom(1, bytes.length / 2, 10)) {
            return NONE;
        }
        Days was = days;
        days = days.copy();
        boolean isSo = true;
        for (int i = 0; i < bytes.length; i += 2) {
            isSo = isSo && shadow(Byte.toUnsignedInt(bytes[i]), Byte.toUnsignedInt(bytes[i + 1]));
        }
        int bits = isSo ? breachBits() : NONE;
        days = was;
        return bits;
    }

    /** The dial is bent so that it shows this at minute 100: false if none can be. */
    private boolean shadow(int t, int showed) {
        for (int bend = -30; bend <= 30 && isTown(t); bend++) {
            if (100 - (land.towns.get(t).noon() - bend) == showed) {
                days.bends[t] = bend;
                return true;
            }
        }
        return false;
    }

    public int votes(int t, int m) {
        mustBe(isTown(t) && isFrom(-60, m, 60));
        int votes = 0;
        for (int u = 0; u < towns(); u++) {
            int was = Math.abs(dialNoon(t) - dialNoon(u));
            int would = Math.abs(land.towns.get(t).noon() - (days.bends[t] + m) - dialNoon(u));
            votes += would < was ? 1 : would > was ? -1 : 0;
        }
        return votes;
    }

    public int nearer() {
        Days was = days;
        days = days.copy();
        int rounds = 0;
        boolean oneDid = true;
        while (oneDid && rounds < 60) {
            rounds++;
            oneDid = false;
            for (int t = 0; t < towns(); t++) {
                oneDid |= dueNow(t).isEmpty() && !days.shaded[t] && comesNearer(t);
            }
        }
        nearerBends = Arrays.copyOf(days.bends, towns());
        days = was;
        return rounds;
    }

    private boolean comesNearer(int t) {
        List<Integer> others = dialNoons(t);
        if (others.isEmpty()) {
            return false;
        }
        int goal = oneNoonOf(others);
        int off = Math.abs(dialNoon(t) - goal);
        for (int by = -1; by <= 1; by += 2) {
            days.bends[t] += by;
            if (Math.abs(dialNoon(t) - goal) < off && isFrom(-30, days.bends[t], 30)) {
                return true;
            }
            days.bends[t] -= by;
        }
        return false;
    }

    public int nearerAt(int t) {
        mustBe(isFrom(0, t, nearerBends.length - 1));
        return nearerBends[t];
    }

    public int right(int t, int n) {
        if (!isTown(t) || !isFrom(1, n, 60)) {
            return NONE;
        }
        int found = 0;
        for (int day = days.day; day < days.day + n && day <= 399; day++) {
            found += dueOn(t, day).equals(Optional.of(0)) ? 1 : 0;
        }
        return found;
    }

    public int turns(int t) {
        for (int day = days.day; day <= 399 && isTown(t); day++) {
            Optional<Integer> ahead = day == 0 ? Optional.empty() : dueOn(t, day - 1);
            if (!dueOn(t, day).equals(ahead)) {
                return day;
            }
        }
        return NONE;
    }

    public int motto(int t) {
        if (!isTown(t)) {
            return NONE;
        }
        int bend = days.bends[t];
        String counts = bend == 0 ? "right" : bend > 0 ? "fast " + bend : "slow " + -bend;
        motto = land.towns.get(t).name() + " counts " + counts + (days.shaded[t] ? " in the shade" : "");
        return motto.length();
    }

    public int byteAt(int i) {
        return isFrom(0, i, motto.length() - 1) ? motto.charAt(i) : NONE;
    }

    private void drawDays(int n, int seed) {
        DrawnByHand draws = new DrawnByHand(seed);
        for (int i = 0; i < n && days.day < 400; i++) {
            if (draws.draw(12) < land.frost()) {
                frozen();
            }
            for (int t = 0; t < towns(); t++) {
                switch (draws.draw(8)) {
                    case 0 -> bent(t, 1);
                    case 1 -> bent(t, -1);
                    case 2 -> shaded(t, !days.shaded[t]);
                    default -> { }
                }
            }
            dayGone();
        }
    }

    public int drawn(int n, int seed) {
        if (!isFrom(1, n, 60) || towns() == 0) {
            return NONE;
        }
        Days was = days.copy();
        drawDays(n, seed);
        return goneSince(was);
    }

    public int odds(int t, int n, int seed) {
        if (!isTown(t) || !isFrom(1, n, 30)) {
            return NONE;
        }
        Days was = days;
        int found = 0;
        for (int i = 0; i < n; i++) {
            days = was.copy();
            drawDays(20, seed + i);
            found += days.breaches[t] > was.breaches[t] ? 1 : 0;
        }
        days = was;
        return found;
    }

    public int book(int lives) {
        if (!isFrom(0, lives, 1)) {
            return -1000;
        }
        List<PlainText.Act> acts;
        try {
            acts = PlainText.book(emptied(), land);
        } catch (PlainText.Fault wrong) {
            fault = wrong.kind;
            return -2 - wrong.place;
        }
        fault = 0;
        Days was = days;
        days = days.copy();
        int why = 0;
        int line = 0;
        while (why == 0 && line < acts.size()) {
            why = lived(acts.get(line));
            line += why == 0 ? 1 : 0;
        }
        told = new Told(why, line, days.day, breachBits());
        if (lives == 1) {
            canBeUndone(was);
        } else {
            days = was;
        }
        return why == 0 ? NONE : line;
    }

    private int lived(PlainText.Act act) {
        switch (act.word()) {
            case "bend":
                return bent(act.town(), act.number());
            case "shade":
                return shaded(act.town(), true) == 0 ? 0 : 11;
            case "clear":
                return shaded(act.town(), false) == 0 ? 0 : 21;
            case "freeze":
                frozen();
                return 0;
            default:
                if (400 - days.day < act.number()) {
                    return 41;
                }
                for (int i = 0; i < act.number(); i++) {
                    dayGone();
                }
                return 0;
        }
    }

    public int told(int what) {
        if (told == null || !isFrom(0, what, 3)) {
            return NONE;
        }
        return new int[] {told.why(), told.lines(), told.day(), told.breaches()}[what];
    }

    public int sentence() {
        try {
            saying = PlainText.sentence(emptied(), land);
        } catch (PlainText.Fault wrong) {
            fault = wrong.kind;
            return -1 - wrong.place;
        }
        fault = 0;
        return saying.ones();
    }

    public int said(int k) {
        if (saying == null) {
            return NONE;
        }
        List<Integer> of = new ArrayList<>();
        for (int t = 0; t < towns(); t++) {
            if (saying.cond().holds(this, t)) {
                of.add(t);
            }
        }
        if (k == NONE) {
            return of.size();
        }
        return isFrom(0, k, of.size() - 1) ? of.get(k) : NONE;
    }

    public boolean image(int k) {
        if (!isFrom(0, k, 1)) {
            return false;
        }
        images[k] = new Kept(land, days.copy(), saying);
        return true;
    }

    public boolean restore(int k) {
        if (!isFrom(0, k, 1) || images[k] == null) {
            return false;
        }
        land = images[k].land();
        days = images[k].days().copy();
        saying = images[k].saying();
        before.clear();
        return true;
    }

    public int count(int what) {
        int[] all = {towns(), land.terms.size(), land.trains.size(), land.limit(), land.change(), land.frost(), tape.length()};
        return isFrom(0, what, 6) ? all[what] : NONE;
    }
}
