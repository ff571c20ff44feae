import java.util.Random;
import java.util.regex.Matcher;
import java.util.regex.Pattern;

/** Texts by draws: mostly as the document tells them, some spoilt in a place or two. */
final class AnyText {
    private static final String[] PIECES = {"town ", "term ", "train ", "limit ", "change ", "frost ", "fast ", "slow ", "bend ",
        "shade ", "clear ", "freeze", "day ", "or ", "and ", "not ", "right ", "shaded ", "breach ", "ahead ", "broken ",
        "number ", "a ", "b ", "c ", "ka ", "abcdefg ", "abcdefgh ", "0 ", "1 ", "11 ", "30 ", "31 ", "61 ", "399 ", "400 ",
        "601 ", "999 ", "1000 ", ";", "; ", " ;", "<", "=", ">", "(", ")", "\n", ".", "A", "\t", "a1 "};

    private static final Pattern TOKEN = Pattern.compile("\\b[a-z0-9]+");

    private final Random random;

    AnyText(Random random) {
        this.random = random;
    }

    private int below(int n) {
        return random.nextInt(n);
    }

    private boolean oneIn(int n) {
        return below(n) == 0;
    }

    private String way() {
        return random.nextBoolean() ? " fast " : " slow ";
    }

    private static String name(int t) {
        return String.valueOf((char) ('a' + t)).repeat(1 + t);
    }

    String valley() {
        StringBuilder all = new StringBuilder();
        int towns = oneIn(30) ? 8 : 1 + below(7);
        for (int t = 0; t < towns; t++) {
            all.append("town ").append(name(t)).append(' ').append(below(oneIn(3) ? 61 : 10));
            all.append(oneIn(3) ? "" : way() + (1 + below(oneIn(3) ? 30 : 5))).append(';');
        }
        int terms = oneIn(30) ? 13 : below(13);
        int span = random.nextBoolean() ? 400 : 20;
        for (int i = 0; i < terms; i++) {
            int from = below(span);
            all.append("term ").append(name(below(towns))).append(' ').append(from).append(' ');
            all.append(from + below(Math.min(400 - from, span))).append(way()).append(below(oneIn(3) ? 31 : 4)).append(';');
        }
        trains(all, towns);
        String[] rules = {"limit " + (1 + below(10)), "change " + below(oneIn(3) ? 31 : 6), "frost " + below(13)};
        for (String rule : rules) {
            all.append(random.nextBoolean() ? rule + ";" : "");
        }
        return all.toString();
    }

    private void trains(StringBuilder all, int towns) {
        int trains = towns < 2 ? 0 : oneIn(30) ? 9 : below(9);
        int spread = random.nextBoolean() ? 121 : 13;
        for (int k = 0; k < trains; k++) {
            int from = below(towns);
            int to = (from + 1 + below(towns - 1)) % towns;
            all.append("train k").append((char) ('a' + k)).append(' ').append(name(from)).append(' ').append(name(to));
            all.append(' ').append(5 * below(spread)).append(' ').append(5 + 5 * below(oneIn(2) ? 40 : 3)).append(';');
        }
    }

    String book(int towns) {
        StringBuilder all = new StringBuilder();
        int lines = oneIn(20) ? 41 : below(oneIn(3) ? 40 : 6);
        for (int i = 0; i < lines; i++) {
            String town = name(below(Math.max(1, towns)));
            String[] acts = {"bend " + town + way() + (1 + below(oneIn(4) ? 10 : 3)), "shade " + town, "clear " + town,
                "freeze", "day " + (1 + below(oneIn(9) ? 60 : 4)), "day 1", "day 1"};
            all.append(acts[below(acts.length)]).append(';');
        }
        return all.toString();
    }

    String sentence(int towns) {
        return cond(towns, oneIn(12) ? 9 : 4);
    }

    private String cond(int towns, int depth) {
        StringBuilder all = new StringBuilder(one(towns, depth));
        while (oneIn(3)) {
            all.append(random.nextBoolean() ? " or " : " and ").append(one(towns, depth));
        }
        return all.toString();
    }

    private String one(int towns, int depth) {
        if (depth > 1 && oneIn(depth > 4 ? 1 : 3)) {
            return random.nextBoolean() ? "not " + one(towns, depth - 1) : "(" + cond(towns, depth - 1) + ")";
        }
        String sign = String.valueOf("<=>".charAt(below(3))) + below(oneIn(4) ? 31 : 6);
        String[] ones = {"right", "shaded", "breach", "ahead " + name(below(Math.max(1, towns))), "fast" + sign, "slow" + sign,
            "broken" + sign, "number" + sign};
        return ones[below(ones.length)];
    }

    /** Pairs of a town and what its dial may have shown at minute 100. */
    String shadows(int towns) {
        StringBuilder all = new StringBuilder();
        int pairs = oneIn(8) ? 11 : below(11);
        for (int i = 0; i < pairs; i++) {
            all.append((char) below(oneIn(40) ? 8 : Math.max(1, towns)));
            all.append((char) (oneIn(40) ? below(256) : 75 + below(30)));
        }
        all.append(oneIn(40) ? "x" : "");
        return all.toString();
    }

    /** The text itself, or with pieces in it or out of it, so long at most as a tape. */
    String spoilt(String text) {
        StringBuilder all = new StringBuilder(text);
        for (int i = oneIn(2) ? 0 : 1 + below(2); i > 0; i--) {
            int at = below(all.length() + 1);
            switch (below(8)) {
                case 0 -> all.insert(at, any(PIECES));
                case 1 -> all.replace(at, Math.min(at + 1 + below(3), all.length()), any(PIECES));
                case 2 -> all.delete(at, Math.min(at + 1 + below(4), all.length()));
                case 3 -> all.insert(at, " \n".repeat(below(oneIn(2) ? 300 : 5)));
                case 4 -> all.append(all);
                case 5 -> all.setLength(at);
                default -> otherToken(all, at);
            }
        }
        all.setLength(Math.min(all.length(), 940));
        return all.toString();
    }

    /** The next number is another one, or the next word is one of another sort. */
    private void otherToken(StringBuilder all, int from) {
        Matcher token = TOKEN.matcher(all);
        if (token.find(from)) {
            boolean isNumber = Character.isDigit(token.group().charAt(0));
            String other = isNumber ? String.valueOf(below(oneIn(2) ? 70 : 1000)) : any(PIECES).trim();
            all.replace(token.start(), token.end(), other);
        }
    }

    private String any(String[] row) {
        return row[below(row.length)];
    }

    /** Pieces without any order. */
    String pieces() {
        StringBuilder all = new StringBuilder();
        for (int n = below(oneIn(4) ? 200 : 12); n > 0; n--) {
            all.append(any(PIECES));
        }
        if (oneIn(10) && all.length() > 0) {
            all.setCharAt(below(all.length()), (char) below(256));
        }
        all.setLength(Math.min(all.length(), 940));
        return all.toString();
    }
}
