import java.util.NoSuchElementException;

/**
 * A valley of towns whose sundials are wrong by treaty. The numbered promises stand in the
 * project's document; README.md tells how the class is used.
 */
public final class SundialTreaty {
    public static final int NONE = -1;

    private static final int MOST_TOWNS = 7;
    private static final int MOST_TERMS = 12;
    private static final int MOST_TRAINS = 8;
    private static final int MOST_BEND = 30;
    private static final int LAST_DAY = 400;
    private static final int TAPE_BYTES = 940;
    /** No bend and no minute is ever as large, so that it can stand for "there is none". */
    private static final int NOT_THERE = 10000;

    private final Reader tape = new Reader();
    private final ValleyText valleyText = new ValleyText();
    private Valley land = new Valley();
    private Valley draft = new Valley();
    private final State state = new State();
    private final State trial = new State();
    private final History history = new History();
    private Sentence saying = new Sentence();
    private Sentence sayingDraft = new Sentence();
    private final Book pages = new Book();
    private final Router router = new Router();
    private final Motto words = new Motto();
    private final Image[] images = {new Image(), new Image()};
    private final int[] evenBy = new int[MOST_TOWNS];
    private int evenTowns = NONE;
    private final int[] nearerBends = new int[MOST_TOWNS];
    private int nearerTowns = NONE;

    public SundialTreaty() {
    }

    public int feed(int a, int b, int c, int d, int e) {
        if (tape.size + 20 > TAPE_BYTES) {
            return NONE;
        }
        tape.put(a);
        tape.put(b);
        tape.put(c);
        tape.put(d);
        tape.put(e);
        return tape.size;
    }

    public boolean end(int n) {
        if (n < 0 || n > tape.size) {
            return false;
        }
        tape.size = n;
        return true;
    }

    public int valley() {
        int lines = valleyText.readInto(draft, tape);
        tape.size = 0;
        if (lines == NONE) {
            return -1 - tape.faultPlace;
        }
        Valley old = land;
        land = draft;
        draft = old;
        state.beginIn(land);
        saying.size = 0;
        history.kept = 0;
        return lines;
    }

    public int fault() {
        return tape.faultKind;
    }

    public int town(int t, int what) throws NoSuchElementException {
        if (!hasTown(t)) {
            throw new NoSuchElementException("no such town");
        }
        switch (what) {
            case 0:
                return land.noon[t];
            case 1:
                return state.bends[t];
            case 2:
                return state.isShaded(t) ? 1 : 0;
            case 3:
                return state.inBreach(land, t) ? 1 : 0;
            case 4:
                return state.breaches[t];
            case 5:
                return state.sprung[t];
            case 6:
                return state.noonByDial(land, t);
            case 7:
                return state.wasBent(t) ? 1 : 0;
            case 8:
                return hasDue(t) ? 1 : 0;
            default:
                throw new NoSuchElementException("nothing such is told of a town");
        }
    }

    public int due(int t, int day) throws NoSuchElementException {
        if (!hasTown(t) || day < 0 || day >= LAST_DAY) {
            throw new NoSuchElementException("no such town or day");
        }
        int bend = land.dueOn(t, day);
        if (bend == NOT_THERE) {
            throw new NoSuchElementException("it has no due");
        }
        return bend;
    }

    public int train(int k, int what) throws NoSuchElementException {
        if (!hasTrain(k)) {
            throw new NoSuchElementException("no such train");
        }
        switch (what) {
            case 0:
                return land.trainFrom[k];
            case 1:
                return land.trainTo[k];
            case 2:
                return land.trainLeaves[k];
            case 3:
                return land.trainTakes[k];
            case 4:
                return state.leaves(land, k);
            case 5:
                return state.comes(land, k);
            case 6:
                return state.comes(land, k) - state.noonByDial(land, land.trainTo[k]);
            default:
                throw new NoSuchElementException("nothing such is told of a train");
        }
    }

    public int shows(int t, int m) throws NoSuchElementException {
        if (!hasTown(t) || m < 0 || m > 999 || state.isShaded(t)) {
            throw new NoSuchElementException("no such town or minute, or it is shaded");
        }
        return m - state.noonByDial(land, t);
    }

    public int now(int what) throws NoSuchElementException {
        switch (what) {
            case 0:
                return state.day;
            case 1:
                return bendsAdded();
            case 2:
                return state.breachBits(land);
            case 3:
                return state.shadedBits;
            case 4:
                return added(state.breaches);
            case 5:
                return added(state.sprung);
            case 6:
                return minutesOff();
            default:
                throw new NoSuchElementException("nothing such is told");
        }
    }

    public int bend(int t, int m) {
        if (!hasTown(t) || m < -10 || m > 10 || m == 0) {
            return NONE;
        }
        int why = state.whyNotBend(land, t, m);
        if (why == 0) {
            history.keep(state);
            state.bendBy(t, m);
        }
        return why;
    }

    public int shade(int t) {
        if (!hasTown(t)) {
            return NONE;
        }
        if (state.isShaded(t)) {
            return 1;
        }
        history.keep(state);
        state.turnShade(t);
        return 0;
    }

    public int clear(int t) {
        if (!hasTown(t)) {
            return NONE;
        }
        if (!state.isShaded(t)) {
            return 1;
        }
        history.keep(state);
        state.turnShade(t);
        return 0;
    }

    public int freeze() {
        history.keep(state);
        return state.springBack(land);
    }

    public int days(int n) {
        if (n < 1 || n > 60) {
            return NONE;
        }
        int gone = Math.min(n, LAST_DAY - state.day);
        if (gone > 0) {
            history.keep(state);
        }
        state.passDays(land, gone);
        return gone;
    }

    public int undo() {
        return history.takeBack(state);
    }

    public int noonLong() throws NoSuchElementException {
        int first = NOT_THERE;
        int last = -NOT_THERE;
        for (int t = 0; t < land.towns; t++) {
            if (!state.isShaded(t)) {
                first = Math.min(first, state.noonByDial(land, t));
                last = Math.max(last, state.noonByDial(land, t));
            }
        }
        if (first == NOT_THERE) {
            throw new NoSuchElementException("no dial tells noon");
        }
        return last - first;
    }

    public int oneNoon() throws NoSuchElementException {
        int minute = state.middleNoon(land, NONE);
        if (minute == NOT_THERE) {
            throw new NoSuchElementException("no dial tells noon");
        }
        return minute;
    }

    public int even() {
        int sum = bendsAdded();
        int way = sum > 0 ? -1 : 1;
        int all = Math.abs(sum);
        int room = 0;
        for (int t = 0; t < land.towns; t++) {
            room += roomOf(t, way);
        }
        if (room < all) {
            return NONE;
        }
        int left = all;
        // A town gives only what the towns behind it can't: so the first ones give the fewest.
        for (int t = 0; t < land.towns; t++) {
            room -= roomOf(t, way);
            int gives = Math.max(0, left - room);
            evenBy[t] = way * gives;
            left -= gives;
        }
        evenTowns = land.towns;
        return all;
    }

    public int evenAt(int t) throws NoSuchElementException {
        if (t < 0 || t >= evenTowns) {
            throw new NoSuchElementException("no such town, or nothing was evened");
        }
        return evenBy[t];
    }

    public int kept() {
        trial.copyFrom(state);
        for (int i = 0; i < 200 && trial.day < LAST_DAY; i++) {
            trial.bendToDues(land);
            if (trial.breachBits(land) == 0) {
                return trial.day;
            }
            trial.day++;
        }
        return NONE;
    }

    public int worst(int n) {
        if (n < 1 || n > 60) {
            return NONE;
        }
        trial.copyFrom(state);
        trial.passDays(land, n);
        int found = NONE;
        int most = 0;
        for (int t = 0; t < land.towns; t++) {
            int more = trial.breaches[t] - state.breaches[t];
            if (more > most) {
                most = more;
                found = t;
            }
        }
        return found;
    }

    public int spare(int i, int k) throws NoSuchElementException {
        if (!hasTrain(i) || !hasTrain(k) || land.trainTo[i] != land.trainFrom[k]) {
            throw new NoSuchElementException("no such trains, or they do not meet");
        }
        return state.leaves(land, k) - state.comes(land, i) - land.change();
    }

    public int route(int a, int b, int m) {
        if (!hasTown(a) || !hasTown(b) || a == b || m < 0 || m > 999) {
            return NONE;
        }
        return router.find(land, state, a, b, m);
    }

    public int routeAt(int k) {
        return k >= 0 && k < router.toldTrains ? router.told[k] : NONE;
    }

    public int shadows() {
        int bytes = tape.size;
        tape.size = 0;
        if (bytes < 2 || bytes > 20 || bytes % 2 != 0) {
            return NONE;
        }
        trial.copyFrom(state);
        for (int i = 0; i + 1 < bytes; i += 2) {
            int t = tape.bytes[i];
            if (!hasTown(t)) {
                return NONE;
            }
            int bend = tape.bytes[i + 1] - 100 + land.noon[t];
            if (bend < -MOST_BEND || bend > MOST_BEND) {
                return NONE;
            }
            trial.bends[t] = bend;
        }
        return trial.breachBits(land);
    }

    public int votes(int t, int m) throws NoSuchElementException {
        if (!hasTown(t) || m < -60 || m > 60) {
            throw new NoSuchElementException("no such town or bend");
        }
        int own = state.noonByDial(land, t);
        int sum = 0;
        for (int u = 0; u < land.towns; u++) {
            int other = state.noonByDial(land, u);
            sum += Integer.compare(Math.abs(own - other), Math.abs(own - m - other));
        }
        return sum;
    }

    public int nearer() {
        trial.copyFrom(state);
        int rounds = 0;
        boolean moved = true;
        while (moved && rounds < 60) {
            moved = trial.comeNearer(land);
            rounds++;
        }
        for (int t = 0; t < land.towns; t++) {
            nearerBends[t] = trial.bends[t];
        }
        nearerTowns = land.towns;
        return rounds;
    }

    public int nearerAt(int t) throws NoSuchElementException {
        if (t < 0 || t >= nearerTowns) {
            throw new NoSuchElementException("no such town, or none came nearer");
        }
        return nearerBends[t];
    }

    public int right(int t, int n) {
        if (!hasTown(t) || n < 1 || n > 60) {
            return NONE;
        }
        int found = 0;
        int behind = Math.min(state.day + n, LAST_DAY);
        for (int day = state.day; day < behind; day++) {
            if (land.dueOn(t, day) == 0) {
                found++;
            }
        }
        return found;
    }

    public int turns(int t) {
        if (!hasTown(t)) {
            return NONE;
        }
        int ahead = land.dueOn(t, state.day - 1);
        for (int day = state.day; day < LAST_DAY; day++) {
            if (land.dueOn(t, day) != ahead) {
                return day;
            }
        }
        return NONE;
    }

    public int motto(int t) {
        if (!hasTown(t)) {
            return NONE;
        }
        words.write(land.townName[t], state.bends[t], state.isShaded(t));
        return words.size;
    }

    public int byteAt(int i) {
        return i >= 0 && i < words.size ? words.bytes[i] : NONE;
    }

    public int drawn(int n, int seed) {
        if (n < 1 || n > 60 || land.towns == 0) {
            return NONE;
        }
        int gone = Math.min(n, LAST_DAY - state.day);
        if (gone > 0) {
            history.keep(state);
        }
        state.drawDays(land, gone, seed);
        return gone;
    }

    public int odds(int t, int n, int seed) {
        if (!hasTown(t) || n < 1 || n > 30) {
            return NONE;
        }
        int found = 0;
        for (int i = 0; i < n; i++) {
            trial.copyFrom(state);
            trial.drawDays(land, 20, seed + i);
            if (trial.breaches[t] > state.breaches[t]) {
                found++;
            }
        }
        return found;
    }

    public int book(int lives) {
        if (lives != 0 && lives != 1) {
            return -1000;
        }
        boolean isBook = pages.read(land, tape);
        tape.size = 0;
        if (!isBook) {
            return -2 - tape.faultPlace;
        }
        trial.copyFrom(state);
        pages.judge(land, trial);
        if (lives == 1) {
            history.keep(state);
            state.copyFrom(trial);
        }
        return pages.wrongLine;
    }

    public int told(int what) {
        if (!pages.judged) {
            return NONE;
        }
        switch (what) {
            case 0:
                return pages.why;
            case 1:
                return pages.goodLines;
            case 2:
                return pages.dayThen;
            case 3:
                return pages.breachesThen;
            default:
                return NONE;
        }
    }

    public int sentence() {
        boolean isSentence = sayingDraft.read(land, tape);
        tape.size = 0;
        if (!isSentence) {
            return -1 - tape.faultPlace;
        }
        Sentence old = saying;
        saying = sayingDraft;
        sayingDraft = old;
        return saying.ones;
    }

    public int said(int k) {
        if (saying.size == 0) {
            return NONE;
        }
        int found = 0;
        for (int t = 0; t < land.towns; t++) {
            if (saying.holds(land, state, t)) {
                if (found == k) {
                    return t;
                }
                found++;
            }
        }
        return k == NONE ? found : NONE;
    }

    public boolean image(int k) {
        if (k < 0 || k >= images.length) {
            return false;
        }
        Image place = images[k];
        place.land.copyFrom(land);
        place.state.copyFrom(state);
        place.saying.copyFrom(saying);
        place.isKept = true;
        return true;
    }

    public boolean restore(int k) {
        if (k < 0 || k >= images.length || !images[k].isKept) {
            return false;
        }
        Image place = images[k];
        land.copyFrom(place.land);
        state.copyFrom(place.state);
        saying.copyFrom(place.saying);
        history.kept = 0;
        return true;
    }

    public int count(int what) {
        switch (what) {
            case 0:
                return land.towns;
            case 1:
                return land.terms;
            case 2:
                return land.trains;
            case 3:
                return land.limit();
            case 4:
                return land.change();
            case 5:
                return land.frost();
            case 6:
                return tape.size;
            default:
                return NONE;
        }
    }

    private boolean hasTown(int t) {
        return t >= 0 && t < land.towns;
    }

    private boolean hasTrain(int k) {
        return k >= 0 && k < land.trains;
    }

    private boolean hasDue(int t) {
        return land.dueOn(t, state.day) != NOT_THERE;
    }

    private int added(int[] row) {
        int sum = 0;
        for (int t = 0; t < land.towns; t++) {
            sum += row[t];
        }
        return sum;
    }

    private int bendsAdded() {
        return added(state.bends);
    }

    private int minutesOff() {
        int sum = 0;
        for (int t = 0; t < land.towns; t++) {
            sum += Math.abs(state.bends[t]);
        }
        return sum;
    }

    /** How many minutes a town may be bent that way; a town with a due is left alone. */
    private int roomOf(int t, int way) {
        return hasDue(t) ? 0 : MOST_BEND - way * state.bends[t];
    }

    /** The towns, terms and trains as a text told them. */
    private static final class Valley {
        private static final int LIMIT = 0;
        private static final int CHANGE = 1;
        private static final int FROST = 2;

        private int towns = 0;
        private final long[] townName = new long[MOST_TOWNS];
        private final int[] noon = new int[MOST_TOWNS];
        private final int[] bendTold = new int[MOST_TOWNS];
        private int terms = 0;
        private final int[] termTown = new int[MOST_TERMS];
        private final int[] termFrom = new int[MOST_TERMS];
        private final int[] termTo = new int[MOST_TERMS];
        private final int[] termBend = new int[MOST_TERMS];
        private int trains = 0;
        private final long[] trainName = new long[MOST_TRAINS];
        private final int[] trainFrom = new int[MOST_TRAINS];
        private final int[] trainTo = new int[MOST_TRAINS];
        private final int[] trainLeaves = new int[MOST_TRAINS];
        private final int[] trainTakes = new int[MOST_TRAINS];
        private final int[] settings = {3, 2, 1};

        private void makeEmpty() {
            towns = 0;
            terms = 0;
            trains = 0;
            settings[LIMIT] = 3;
            settings[CHANGE] = 2;
            settings[FROST] = 1;
        }

        private void copyFrom(Valley other) {
            towns = other.towns;
            System.arraycopy(other.townName, 0, townName, 0, MOST_TOWNS);
            System.arraycopy(other.noon, 0, noon, 0, MOST_TOWNS);
            System.arraycopy(other.bendTold, 0, bendTold, 0, MOST_TOWNS);
            terms = other.terms;
            System.arraycopy(other.termTown, 0, termTown, 0, MOST_TERMS);
            System.arraycopy(other.termFrom, 0, termFrom, 0, MOST_TERMS);
            System.arraycopy(other.termTo, 0, termTo, 0, MOST_TERMS);
            System.arraycopy(other.termBend, 0, termBend, 0, MOST_TERMS);
            trains = other.trains;
            System.arraycopy(other.trainName, 0, trainName, 0, MOST_TRAINS);
            System.arraycopy(other.trainFrom, 0, trainFrom, 0, MOST_TRAINS);
            System.arraycopy(other.trainTo, 0, trainTo, 0, MOST_TRAINS);
            System.arraycopy(other.trainLeaves, 0, trainLeaves, 0, MOST_TRAINS);
            System.arraycopy(other.trainTakes, 0, trainTakes, 0, MOST_TRAINS);
            System.arraycopy(other.settings, 0, settings, 0, settings.length);
        }

        private int limit() {
            return settings[LIMIT];
        }

        private int change() {
            return settings[CHANGE];
        }

        private int frost() {
            return settings[FROST];
        }

        private int townNamed(long name) {
            for (int t = 0; t < towns; t++) {
                if (townName[t] == name) {
                    return t;
                }
            }
            return NONE;
        }

        private boolean isTold(long name) {
            for (int k = 0; k < trains; k++) {
                if (trainName[k] == name) {
                    return true;
                }
            }
            return townNamed(name) != NONE;
        }

        /** NOT_THERE on days for which no term holds, those ahead of and behind all days too. */
        private int dueOn(int t, int day) {
            for (int i = 0; i < terms; i++) {
                if (termTown[i] == t && termFrom[i] <= day && day <= termTo[i]) {
                    return termBend[i];
                }
            }
            return NOT_THERE;
        }
    }

    /** All that changes from day to day; which towns there are stands in the valley. */
    private static final class State {
        private int day = 0;
        private int shadedBits = 0;
        private int bentBits = 0;
        private final int[] bends = new int[MOST_TOWNS];
        private final int[] breaches = new int[MOST_TOWNS];
        private final int[] sprung = new int[MOST_TOWNS];
        private int seed = 0;

        private void beginIn(Valley land) {
            day = 0;
            shadedBits = 0;
            bentBits = 0;
            for (int t = 0; t < MOST_TOWNS; t++) {
                bends[t] = t < land.towns ? land.bendTold[t] : 0;
                breaches[t] = 0;
                sprung[t] = 0;
            }
        }

        private void copyFrom(State other) {
            day = other.day;
            shadedBits = other.shadedBits;
            bentBits = other.bentBits;
            System.arraycopy(other.bends, 0, bends, 0, MOST_TOWNS);
            System.arraycopy(other.breaches, 0, breaches, 0, MOST_TOWNS);
            System.arraycopy(other.sprung, 0, sprung, 0, MOST_TOWNS);
        }

        private boolean isShaded(int t) {
            return (shadedBits >> t & 1) != 0;
        }

        private void turnShade(int t) {
            shadedBits ^= 1 << t;
        }

        private boolean wasBent(int t) {
            return (bentBits >> t & 1) != 0;
        }

        private int noonByDial(Valley land, int t) {
            return land.noon[t] - bends[t];
        }

        private boolean inBreach(Valley land, int t) {
            int due = land.dueOn(t, day);
            return due != NOT_THERE && due != bends[t];
        }

        private int breachBits(Valley land) {
            int bits = 0;
            for (int t = 0; t < land.towns; t++) {
                if (inBreach(land, t)) {
                    bits |= 1 << t;
                }
            }
            return bits;
        }

        private int leaves(Valley land, int k) {
            return land.trainLeaves[k] + noonByDial(land, land.trainFrom[k]);
        }

        private int comes(Valley land, int k) {
            return leaves(land, k) + land.trainTakes[k];
        }

        private int whyNotBend(Valley land, int t, int m) {
            if (wasBent(t)) {
                return 1;
            }
            if (Math.abs(m) > land.limit()) {
                return 2;
            }
            return Math.abs(bends[t] + m) > MOST_BEND ? 3 : 0;
        }

        private void bendBy(int t, int m) {
            bends[t] += m;
            bentBits |= 1 << t;
        }

        private int springBack(Valley land) {
            int springs = 0;
            for (int t = 0; t < land.towns; t++) {
                if (bends[t] != 0) {
                    bends[t] -= Integer.signum(bends[t]);
                    sprung[t]++;
                    springs++;
                }
            }
            return springs;
        }

        private void passDay(Valley land) {
            for (int t = 0; t < land.towns; t++) {
                if (!isShaded(t) && inBreach(land, t)) {
                    breaches[t]++;
                }
            }
            day++;
            bentBits = 0;
        }

        private void passDays(Valley land, int n) {
            for (int i = 0; i < n && day < LAST_DAY; i++) {
                passDay(land);
            }
        }

        private int draw(int n) {
            seed = seed * 1103515245 + 12345;
            return n > 0 ? (seed >>> 8) % n : 0;
        }

        private void drawDays(Valley land, int n, int firstSeed) {
            seed = firstSeed;
            for (int i = 0; i < n && day < LAST_DAY; i++) {
                if (draw(12) < land.frost()) {
                    springBack(land);
                }
                for (int t = 0; t < land.towns; t++) {
                    actByDraw(land, t, draw(8));
                }
                passDay(land);
            }
        }

        private void actByDraw(Valley land, int t, int drawn) {
            if (drawn == 2) {
                turnShade(t);
            } else if (drawn < 2) {
                int m = drawn == 0 ? 1 : -1;
                if (whyNotBend(land, t, m) == 0) {
                    bendBy(t, m);
                }
            }
        }

        private void bendToDues(Valley land) {
            for (int t = 0; t < land.towns; t++) {
                int due = land.dueOn(t, day);
                if (due != NOT_THERE) {
                    int off = due - bends[t];
                    bends[t] += Math.max(-land.limit(), Math.min(land.limit(), off));
                }
            }
        }

        /**
         * The one noon of all towns that are not shaded but one (NONE: of all), or NOT_THERE.
         * It is the lower middle of their noons: no other minute is off by less in all.
         */
        private int middleNoon(Valley land, int but) {
            int all = 0;
            for (int t = 0; t < land.towns; t++) {
                if (t != but && !isShaded(t)) {
                    all++;
                }
            }
            int middle = NOT_THERE;
            for (int t = 0; t < land.towns; t++) {
                if (t != but && !isShaded(t)) {
                    int noon = noonByDial(land, t);
                    if (noon < middle && 2 * noonsUpTo(land, but, noon) >= all) {
                        middle = noon;
                    }
                }
            }
            return middle;
        }

        private int noonsUpTo(Valley land, int but, int minute) {
            int found = 0;
            for (int t = 0; t < land.towns; t++) {
                if (t != but && !isShaded(t) && noonByDial(land, t) <= minute) {
                    found++;
                }
            }
            return found;
        }

        /** One round: whether a town was bent in it. */
        private boolean comeNearer(Valley land) {
            boolean moved = false;
            for (int t = 0; t < land.towns; t++) {
                if (!isShaded(t) && land.dueOn(t, day) == NOT_THERE) {
                    int goal = middleNoon(land, t);
                    int bend = bends[t] + Integer.compare(noonByDial(land, t), goal);
                    if (goal != NOT_THERE && bend != bends[t] && Math.abs(bend) <= MOST_BEND) {
                        bends[t] = bend;
                        moved = true;
                    }
                }
            }
            return moved;
        }
    }

    /** What was ahead of the latest acts, the oldest first. */
    private static final class History {
        private static final int MOST = 8;

        private final State[] states = new State[MOST];
        private int kept = 0;

        private History() {
            for (int i = 0; i < MOST; i++) {
                states[i] = new State();
            }
        }

        private void keep(State state) {
            if (kept >= MOST) {
                State oldest = states[0];
                for (int i = 0; i + 1 < MOST; i++) {
                    states[i] = states[i + 1];
                }
                states[MOST - 1] = oldest;
                kept = MOST - 1;
            }
            states[kept].copyFrom(state);
            kept++;
        }

        private int takeBack(State state) {
            if (kept <= 0) {
                return NONE;
            }
            kept--;
            state.copyFrom(states[kept]);
            return kept;
        }
    }

    /** A place in which all is kept. */
    private static final class Image {
        private final Valley land = new Valley();
        private final State state = new State();
        private final Sentence saying = new Sentence();
        private boolean isKept = false;
    }

    /** Finds routes, and holds the trains of the latest one that there was. */
    private static final class Router {
        private final int[] path = new int[MOST_TRAINS];
        private final int[] told = new int[MOST_TRAINS];
        private int toldTrains = 0;
        private int best = NONE;
        private int goal = NONE;

        private int find(Valley land, State state, int from, int to, int minute) {
            best = NONE;
            goal = to;
            search(land, state, from, minute, 0);
            return best;
        }

        /** Trains are tried from the least on, so that of like routes the first one stays. */
        private void search(Valley land, State state, int at, int ready, int depth) {
            if (depth >= MOST_TRAINS) {
                return;
            }
            for (int k = 0; k < land.trains; k++) {
                if (land.trainFrom[k] == at && state.leaves(land, k) >= ready) {
                    path[depth] = k;
                    int there = state.comes(land, k);
                    if (land.trainTo[k] == goal) {
                        takeIfBetter(there, depth + 1);
                    } else {
                        // A train takes a minute at least, so none can be taken twice.
                        search(land, state, land.trainTo[k], there + land.change(), depth + 1);
                    }
                }
            }
        }

        private void takeIfBetter(int there, int trains) {
            if (best == NONE || there < best || there == best && trains < toldTrains) {
                best = there;
                toldTrains = trains;
                System.arraycopy(path, 0, told, 0, trains);
            }
        }
    }

    /** The bytes of the latest motto. */
    private static final class Motto {
        private final int[] bytes = new int[40];
        private int size = 0;

        private void write(long name, int bend, boolean isShaded) {
            size = 0;
            for (int shift = 48; shift >= 0; shift -= 8) {
                int letter = (int) (name >>> shift) & 255;
                if (letter != 0) {
                    put(letter);
                }
            }
            put(" counts ");
            if (bend == 0) {
                put("right");
            } else {
                put(bend > 0 ? "fast " : "slow ");
                putMinutes(Math.abs(bend));
            }
            if (isShaded) {
                put(" in the shade");
            }
        }

        private void putMinutes(int minutes) {
            if (minutes > 9) {
                put('0' + minutes / 10);
            }
            put('0' + minutes % 10);
        }

        private void put(String text) {
            for (int i = 0; i < text.length(); i++) {
                put(text.charAt(i));
            }
        }

        private void put(int letter) {
            if (size < bytes.length) {
                bytes[size] = letter;
                size++;
            }
        }
    }

    /**
     * The tape, its tokens one by one, and the latest fault. The token read last is looked at by
     * the methods that answer false, with the fault noted, if it is not the one that must come.
     */
    private static final class Reader {
        private static final String WORDS =
                "town fast slow term train limit change frost bend shade clear freeze day or and not right shaded breach ahead broken number ";
        private static final int TOWN = 0;
        private static final int FAST = 1;
        private static final int SLOW = 2;
        private static final int TERM = 3;
        private static final int TRAIN = 4;
        private static final int LIMIT = 5;
        private static final int CHANGE = 6;
        private static final int FROST = 7;
        private static final int BEND = 8;
        private static final int SHADE = 9;
        private static final int CLEAR = 10;
        private static final int FREEZE = 11;
        private static final int DAY = 12;
        private static final int OR = 13;
        private static final int AND = 14;
        private static final int NOT = 15;
        private static final int RIGHT = 16;
        private static final int SHADED = 17;
        private static final int BREACH = 18;
        private static final int AHEAD = 19;
        private static final int BROKEN = 20;
        private static final int NUMBER = 21;

        /** Kinds of tokens; a sign's kind is its byte. */
        private static final int NO_TOKEN = 0;
        private static final int THE_END = 1;
        private static final int A_WORD = 2;
        private static final int A_NUMBER = 3;

        private final int[] bytes = new int[TAPE_BYTES];
        private int size = 0;
        private int most = 0;
        private int pos = 0;
        private int start = 0;
        private int kind = NO_TOKEN;
        /** The letters of a word, a byte each. */
        private long letters = 0;
        private int digits = 0;
        /** Which of the words told by the document it is; NONE: none of them, so a name. */
        private int word = NONE;
        /** What was taken last: a number or a town, a name, a way (1 fast, -1 slow). */
        private int value = 0;
        private long name = 0;
        private int way = 1;
        private int faultKind = 0;
        private int faultPlace = 0;
        private final long[] wordLetters = new long[NUMBER + 1];

        private Reader() {
            int k = 0;
            for (int i = 0; i < WORDS.length() && k < wordLetters.length; i++) {
                if (WORDS.charAt(i) == ' ') {
                    k++;
                } else {
                    wordLetters[k] = wordLetters[k] << 8 | WORDS.charAt(i);
                }
            }
        }

        private void put(int four) {
            for (int shift = 24; shift >= 0; shift -= 8) {
                if (size < bytes.length) {
                    bytes[size] = four >>> shift & 255;
                    size++;
                }
            }
        }

        private void begin(int mostBytes) {
            most = mostBytes;
            pos = 0;
            faultKind = 0;
            faultPlace = 0;
            next();
        }

        private void next() {
            while (pos < size && (bytes[pos] == ' ' || bytes[pos] == '\n')) {
                pos++;
            }
            start = pos;
            kind = NO_TOKEN;
            word = NONE;
            if (size > most && start >= most) {
                start = most;
            } else if (start >= size) {
                kind = THE_END;
            } else if (isSign(bytes[start])) {
                kind = bytes[start];
                pos++;
            } else {
                readRun();
                word = kind == A_WORD ? toldWord() : NONE;
            }
        }

        /** A word or a number; what is neither stays no token. */
        private void readRun() {
            boolean isWord = true;
            boolean isNumber = true;
            letters = 0;
            digits = 0;
            boolean goesOn = true;
            while (goesOn && pos < size) {
                int c = bytes[pos];
                boolean isLetter = c >= 'a' && c <= 'z';
                boolean isDigit = c >= '0' && c <= '9';
                goesOn = isLetter || isDigit;
                if (goesOn) {
                    isWord = isWord && isLetter && pos - start < 7;
                    isNumber = isNumber && isDigit && pos - start < 3;
                    letters = isWord ? letters << 8 | c : letters;
                    digits = isNumber ? digits * 10 + c - '0' : digits;
                    pos++;
                }
            }
            if (pos > start) {
                kind = isWord ? A_WORD : isNumber ? A_NUMBER : NO_TOKEN;
            }
        }

        private int toldWord() {
            for (int k = 0; k < wordLetters.length; k++) {
                if (wordLetters[k] == letters) {
                    return k;
                }
            }
            return NONE;
        }

        private static boolean isSign(int c) {
            return c == ';' || c == '<' || c == '=' || c == '>' || c == '(' || c == ')';
        }

        private boolean failAs(int why) {
            faultKind = why;
            faultPlace = start;
            return false;
        }

        private boolean atEnd() {
            return kind == THE_END;
        }

        private boolean takeSign(int c) {
            if (kind != c) {
                return failAs(1);
            }
            next();
            return true;
        }

        private boolean takeNumber(int least, int highest) {
            if (kind != A_NUMBER) {
                return failAs(1);
            }
            if (digits < least || digits > highest) {
                return failAs(2);
            }
            value = digits;
            next();
            return true;
        }

        private boolean takeWay() {
            if (word != FAST && word != SLOW) {
                return failAs(1);
            }
            way = word == FAST ? 1 : -1;
            next();
            return true;
        }

        private boolean isName() {
            return kind == A_WORD && word == NONE;
        }

        private boolean takeNewName(Valley land) {
            if (!isName()) {
                return failAs(1);
            }
            if (land.isTold(letters)) {
                return failAs(3);
            }
            name = letters;
            next();
            return true;
        }

        /** A town that is not the given one (NONE: any will do). */
        private boolean takeTown(Valley land, int unlike) {
            if (!isName()) {
                return failAs(1);
            }
            int t = land.townNamed(letters);
            if (t == NONE || t == unlike) {
                return failAs(3);
            }
            value = t;
            next();
            return true;
        }
    }

    /** Reads the text of a valley. */
    private static final class ValleyText {
        private static final int MOST_BYTES = 900;
        private static final int[] LEAST = {1, 0, 0};
        private static final int[] HIGHEST = {10, 30, 12};

        private final boolean[] isSet = new boolean[HIGHEST.length];

        /** How many lines; NONE: there is a fault. */
        private int readInto(Valley land, Reader text) {
            land.makeEmpty();
            for (int i = 0; i < isSet.length; i++) {
                isSet[i] = false;
            }
            text.begin(MOST_BYTES);
            int lines = 0;
            while (!text.atEnd() && lines <= MOST_BYTES) {
                if (!readLine(land, text) || !text.takeSign(';')) {
                    return NONE;
                }
                lines++;
            }
            return lines;
        }

        private boolean readLine(Valley land, Reader text) {
            switch (text.word) {
                case Reader.TOWN:
                    return readTown(land, text);
                case Reader.TERM:
                    return readTerm(land, text);
                case Reader.TRAIN:
                    return readTrain(land, text);
                case Reader.LIMIT:
                case Reader.CHANGE:
                case Reader.FROST:
                    return readSetting(land, text, text.word - Reader.LIMIT);
                default:
                    return text.failAs(1);
            }
        }

        private boolean readTown(Valley land, Reader text) {
            int t = land.towns;
            if (t >= MOST_TOWNS) {
                return text.failAs(4);
            }
            text.next();
            if (!text.takeNewName(land) || !text.takeNumber(0, 60)) {
                return false;
            }
            land.townName[t] = text.name;
            land.noon[t] = text.value;
            land.bendTold[t] = 0;
            land.towns++;
            if (text.kind == ';') {
                return true;
            }
            if (!text.takeWay() || !text.takeNumber(1, MOST_BEND)) {
                return false;
            }
            land.bendTold[t] = text.way * text.value;
            return true;
        }

        private boolean readTerm(Valley land, Reader text) {
            int i = land.terms;
            if (i >= MOST_TERMS) {
                return text.failAs(4);
            }
            text.next();
            if (!text.takeTown(land, NONE)) {
                return false;
            }
            land.termTown[i] = text.value;
            if (!text.takeNumber(0, LAST_DAY - 1)) {
                return false;
            }
            land.termFrom[i] = text.value;
            if (!text.takeNumber(land.termFrom[i], LAST_DAY - 1)) {
                return false;
            }
            land.termTo[i] = text.value;
            if (!text.takeWay() || !text.takeNumber(0, MOST_BEND)) {
                return false;
            }
            land.termBend[i] = text.way * text.value;
            land.terms++;
            return true;
        }

        private boolean readTrain(Valley land, Reader text) {
            int k = land.trains;
            if (k >= MOST_TRAINS) {
                return text.failAs(4);
            }
            text.next();
            if (!text.takeNewName(land)) {
                return false;
            }
            land.trainName[k] = text.name;
            if (!text.takeTown(land, NONE)) {
                return false;
            }
            land.trainFrom[k] = text.value;
            if (!text.takeTown(land, land.trainFrom[k])) {
                return false;
            }
            land.trainTo[k] = text.value;
            if (!text.takeNumber(0, 600)) {
                return false;
            }
            land.trainLeaves[k] = text.value;
            if (!text.takeNumber(1, 200)) {
                return false;
            }
            land.trainTakes[k] = text.value;
            land.trains++;
            return true;
        }

        private boolean readSetting(Valley land, Reader text, int which) {
            if (which < 0 || which >= isSet.length) {
                return text.failAs(1);
            }
            if (isSet[which]) {
                return text.failAs(3);
            }
            isSet[which] = true;
            text.next();
            if (!text.takeNumber(LEAST[which], HIGHEST[which])) {
                return false;
            }
            land.settings[which] = text.value;
            return true;
        }
    }

    /** The lines of a book, and what was found of the latest one that was judged. */
    private static final class Book {
        private static final int MOST_BYTES = 400;
        private static final int MOST_LINES = 40;

        private final int[] acts = new int[MOST_LINES];
        private final int[] towns = new int[MOST_LINES];
        private final int[] numbers = new int[MOST_LINES];
        private int lines = 0;
        private boolean judged = false;
        private int wrongLine = NONE;
        private int why = 0;
        private int goodLines = 0;
        private int dayThen = 0;
        private int breachesThen = 0;

        private boolean read(Valley land, Reader text) {
            lines = 0;
            text.begin(MOST_BYTES);
            while (!text.atEnd() && lines <= MOST_LINES) {
                if (!isAct(text.word)) {
                    return text.failAs(1);
                }
                if (lines >= MOST_LINES) {
                    return text.failAs(4);
                }
                if (!readLine(land, text) || !text.takeSign(';')) {
                    return false;
                }
                lines++;
            }
            return true;
        }

        private static boolean isAct(int word) {
            return word >= Reader.BEND && word <= Reader.DAY;
        }

        private boolean readLine(Valley land, Reader text) {
            int act = text.word;
            acts[lines] = act;
            text.next();
            if (act == Reader.BEND || act == Reader.SHADE || act == Reader.CLEAR) {
                if (!text.takeTown(land, NONE)) {
                    return false;
                }
                towns[lines] = text.value;
            }
            if (act == Reader.BEND) {
                if (!text.takeWay() || !text.takeNumber(1, 10)) {
                    return false;
                }
                numbers[lines] = text.way * text.value;
            }
            if (act == Reader.DAY) {
                if (!text.takeNumber(1, 60)) {
                    return false;
                }
                numbers[lines] = text.value;
            }
            return true;
        }

        /** The state given is led on line by line, as far as no line is wrong. */
        private void judge(Valley land, State state) {
            judged = true;
            wrongLine = NONE;
            why = 0;
            goodLines = 0;
            while (goodLines < lines && why == 0) {
                why = live(land, state, goodLines);
                if (why == 0) {
                    goodLines++;
                } else {
                    wrongLine = goodLines;
                }
            }
            dayThen = state.day;
            breachesThen = state.breachBits(land);
        }

        private int live(Valley land, State state, int line) {
            switch (acts[line]) {
                case Reader.BEND:
                    return liveBend(land, state, towns[line], numbers[line]);
                case Reader.SHADE:
                    return liveShade(state, towns[line]);
                case Reader.CLEAR:
                    return liveClear(state, towns[line]);
                case Reader.FREEZE:
                    state.springBack(land);
                    return 0;
                default:
                    return liveDays(land, state, numbers[line]);
            }
        }

        private static int liveBend(Valley land, State state, int t, int m) {
            int reason = state.whyNotBend(land, t, m);
            if (reason == 0) {
                state.bendBy(t, m);
            }
            return reason;
        }

        private static int liveShade(State state, int t) {
            if (state.isShaded(t)) {
                return 11;
            }
            state.turnShade(t);
            return 0;
        }

        private static int liveClear(State state, int t) {
            if (!state.isShaded(t)) {
                return 21;
            }
            state.turnShade(t);
            return 0;
        }

        private static int liveDays(Valley land, State state, int n) {
            if (state.day + n > LAST_DAY) {
                return 41;
            }
            state.passDays(land, n);
            return 0;
        }
    }

    /** What may be said of a town, as steps that work on a stack of bits. */
    private static final class Sentence {
        private static final int MOST_BYTES = 200;
        private static final int MOST_ONES = 20;
        private static final int MOST_WITHIN = 8;
        /** Each one is a step at most, and between two of them stands one 'and' or 'or'. */
        private static final int MOST_STEPS = 2 * MOST_ONES;

        private final int[] steps = new int[MOST_STEPS];
        private final int[] signs = new int[MOST_STEPS];
        private final int[] numbers = new int[MOST_STEPS];
        /** How many steps; 0: there is no sentence. */
        private int size = 0;
        private int ones = 0;

        private void copyFrom(Sentence other) {
            size = other.size;
            ones = other.ones;
            System.arraycopy(other.steps, 0, steps, 0, MOST_STEPS);
            System.arraycopy(other.signs, 0, signs, 0, MOST_STEPS);
            System.arraycopy(other.numbers, 0, numbers, 0, MOST_STEPS);
        }

        private boolean read(Valley land, Reader text) {
            size = 0;
            ones = 0;
            text.begin(MOST_BYTES);
            return readCond(land, text, 1) && (text.atEnd() || text.failAs(1));
        }

        private boolean readCond(Valley land, Reader text, int depth) {
            if (!readAll(land, text, depth)) {
                return false;
            }
            for (int i = 0; i < MOST_ONES && text.word == Reader.OR; i++) {
                text.next();
                if (!readAll(land, text, depth)) {
                    return false;
                }
                addStep(Reader.OR, 0, 0);
            }
            return true;
        }

        private boolean readAll(Valley land, Reader text, int depth) {
            if (!readOne(land, text, depth)) {
                return false;
            }
            for (int i = 0; i < MOST_ONES && text.word == Reader.AND; i++) {
                text.next();
                if (!readOne(land, text, depth)) {
                    return false;
                }
                addStep(Reader.AND, 0, 0);
            }
            return true;
        }

        private boolean readOne(Valley land, Reader text, int depth) {
            int word = text.word;
            boolean isBracket = text.kind == '(';
            if (!isBracket && !beginsOne(word)) {
                return text.failAs(1);
            }
            if (ones >= MOST_ONES || depth > MOST_WITHIN) {
                return text.failAs(4);
            }
            ones++;
            text.next();
            if (isBracket) {
                return readCond(land, text, depth + 1) && text.takeSign(')');
            }
            if (word == Reader.NOT) {
                if (!readOne(land, text, depth + 1)) {
                    return false;
                }
                addStep(Reader.NOT, 0, 0);
                return true;
            }
            return readPlain(land, text, word);
        }

        private static boolean beginsOne(int word) {
            return word == Reader.FAST || word == Reader.SLOW
                    || word >= Reader.NOT && word <= Reader.NUMBER;
        }

        private boolean readPlain(Valley land, Reader text, int word) {
            if (word == Reader.RIGHT || word == Reader.SHADED || word == Reader.BREACH) {
                addStep(word, 0, 0);
                return true;
            }
            if (word == Reader.AHEAD) {
                if (!text.takeTown(land, NONE)) {
                    return false;
                }
                addStep(word, 0, text.value);
                return true;
            }
            int sign = text.kind;
            if (sign != '<' && sign != '=' && sign != '>') {
                return text.failAs(1);
            }
            text.next();
            if (!text.takeNumber(0, 999)) {
                return false;
            }
            addStep(word, sign, text.value);
            return true;
        }

        private void addStep(int step, int sign, int number) {
            if (size < MOST_STEPS) {
                steps[size] = step;
                signs[size] = sign;
                numbers[size] = number;
                size++;
            }
        }

        private boolean holds(Valley land, State state, int t) {
            long stack = 0;
            for (int i = 0; i < size; i++) {
                long below = stack >> 1;
                switch (steps[i]) {
                    case Reader.NOT:
                        stack ^= 1;
                        break;
                    case Reader.AND:
                        stack = below & (stack | ~1L);
                        break;
                    case Reader.OR:
                        stack = below | stack & 1;
                        break;
                    default:
                        stack = stack << 1 | (plainHolds(land, state, t, i) ? 1 : 0);
                        break;
                }
            }
            return (stack & 1) != 0;
        }

        private boolean plainHolds(Valley land, State state, int t, int i) {
            int bend = state.bends[t];
            switch (steps[i]) {
                case Reader.RIGHT:
                    return bend == 0;
                case Reader.SHADED:
                    return state.isShaded(t);
                case Reader.BREACH:
                    return state.inBreach(land, t);
                case Reader.AHEAD:
                    return state.noonByDial(land, t) < state.noonByDial(land, numbers[i]);
                case Reader.FAST:
                    return compares(Math.max(bend, 0), i);
                case Reader.SLOW:
                    return compares(Math.max(-bend, 0), i);
                case Reader.BROKEN:
                    return compares(state.breaches[t], i);
                default:
                    return compares(t, i);
            }
        }

        private boolean compares(int number, int i) {
            switch (signs[i]) {
                case '<':
                    return number < numbers[i];
                case '=':
                    return number == numbers[i];
                default:
                    return number > numbers[i];
            }
        }
    }
}
