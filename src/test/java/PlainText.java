import java.util.ArrayList;
import java.util.HashMap;
import java.util.List;
import java.util.Map;
import java.util.Set;
import java.util.function.IntPredicate;
import java.util.regex.Matcher;
import java.util.regex.Pattern;

/** The texts of the document, read a second time: all tokens first, then one by one, faults thrown. */
final class PlainText {
    /** What ends the reading of a text. */
    static final class Fault extends RuntimeException {
        private static final long serialVersionUID = 1;
        final int kind;
        final int place;

        Fault(int kind, int place) {
            this.kind = kind;
            this.place = place;
        }
    }

    enum Sort { WORD, NUMBER, SIGN, OTHER, END }

    record Token(Sort sort, String text, int place) { }

    record Town(String name, int noon, int bend) { }

    record Term(int town, int from, int to, int bend) { }

    record Train(String name, int from, int to, int leaves, int takes) { }

    record Act(String word, int town, int number) { }

    /** A sentence: how many ones, and of which towns it may be said. */
    record Saying(int ones, Cond cond) { }

    /** Whether it may be said of a town, as all is in a treaty. */
    interface Cond {
        boolean holds(PlainTreaty treaty, int t);
    }

    static final class Land {
        final List<Town> towns = new ArrayList<>();
        final List<Term> terms = new ArrayList<>();
        final List<Train> trains = new ArrayList<>();
        final Map<String, Integer> told = new HashMap<>();
        int lines = 0;

        int limit() {
            return told.getOrDefault("limit", 3);
        }

        int change() {
            return told.getOrDefault("change", 2);
        }

        int frost() {
            return told.getOrDefault("frost", 1);
        }

        int townNamed(String name) {
            return towns.stream().map(Town::name).toList().indexOf(name);
        }

        boolean isTold(String name) {
            return townNamed(name) >= 0 || trains.stream().anyMatch(train -> train.name().equals(name));
        }
    }

    private static final Set<String> OF_VALLEYS = Set.of("town", "term", "train", "limit", "change", "frost", "fast", "slow");
    private static final Set<String> OF_BOOKS = Set.of("bend", "shade", "clear", "freeze", "day");
    private static final Set<String> OF_SENTENCES =
            Set.of("or", "and", "not", "right", "shaded", "breach", "ahead", "broken", "number");
    private static final Pattern PIECE = Pattern.compile("[ \\n]+|[a-z0-9]+|[^ \\na-z0-9]");

    private final List<Token> tokens = new ArrayList<>();
    private int at = 0;
    private int ones = 0;

    private PlainText(String text, int most) {
        Matcher pieces = PIECE.matcher(text);
        while (pieces.find()) {
            boolean isAhead = pieces.start() < most || text.length() <= most;
            if (isAhead && !pieces.group().matches("[ \\n]+")) {
                tokens.add(new Token(sort(pieces.group()), pieces.group(), pieces.start()));
            }
        }
        boolean isLonger = text.length() > most;
        tokens.add(new Token(isLonger ? Sort.OTHER : Sort.END, "", isLonger ? most : text.length()));
    }

    private static Sort sort(String piece) {
        if (piece.matches("[a-z]{1,7}")) {
            return Sort.WORD;
        }
        if (piece.matches("[0-9]{1,3}")) {
            return Sort.NUMBER;
        }
        return piece.matches("[;<=>()]") ? Sort.SIGN : Sort.OTHER;
    }

    static Land valley(String text) {
        PlainText reader = new PlainText(text, 900);
        Land land = new Land();
        while (reader.look().sort() != Sort.END) {
            reader.valleyLine(land);
            reader.must(";");
            land.lines++;
        }
        return land;
    }

    private void valleyLine(Land land) {
        Token first = take();
        switch (first.text()) {
            case "town" -> {
                atMost(land.towns.size(), 7, first);
                land.towns.add(new Town(newName(land), number(0, 60), isNext(";") ? 0 : way() * number(1, 30)));
            }
            case "term" -> {
                atMost(land.terms.size(), 12, first);
                int town = town(land);
                int from = number(0, 399);
                land.terms.add(new Term(town, from, number(from, 399), way() * number(0, 30)));
            }
            case "train" -> {
                atMost(land.trains.size(), 8, first);
                String name = newName(land);
                int from = town(land);
                Token second = look();
                int to = town(land);
                if (from == to) {
                    throw new Fault(3, second.place());
                }
                land.trains.add(new Train(name, from, to, number(0, 600), number(1, 200)));
            }
            case "limit" -> once(land, first, 1, 10);
            case "change" -> once(land, first, 0, 30);
            case "frost" -> once(land, first, 0, 12);
            default -> throw new Fault(1, first.place());
        }
    }

    private void once(Land land, Token word, int least, int most) {
        if (land.told.containsKey(word.text())) {
            throw new Fault(3, word.place());
        }
        land.told.put(word.text(), number(least, most));
    }

    static List<Act> book(String text, Land land) {
        PlainText reader = new PlainText(text, 400);
        List<Act> acts = new ArrayList<>();
        while (reader.look().sort() != Sort.END) {
            Token first = reader.take();
            if (!OF_BOOKS.contains(first.text())) {
                throw new Fault(1, first.place());
            }
            atMost(acts.size(), 40, first);
            acts.add(switch (first.text()) {
                case "bend" -> new Act("bend", reader.town(land), reader.way() * reader.number(1, 10));
                case "day" -> new Act("day", -1, reader.number(1, 60));
                case "freeze" -> new Act("freeze", -1, 0);
                default -> new Act(first.text(), reader.town(land), 0);
            });
            reader.must(";");
        }
        return acts;
    }

    static Saying sentence(String text, Land land) {
        PlainText reader = new PlainText(text, 200);
        Cond cond = reader.cond(land, 0);
        if (reader.look().sort() != Sort.END) {
            throw new Fault(1, reader.look().place());
        }
        return new Saying(reader.ones, cond);
    }

    private Cond cond(Land land, int around) {
        Cond first = allOf(land, around);
        if (!isNext("or")) {
            return first;
        }
        take();
        Cond others = cond(land, around);
        return (treaty, t) -> first.holds(treaty, t) || others.holds(treaty, t);
    }

    private Cond allOf(Land land, int around) {
        Cond first = one(land, around);
        if (!isNext("and")) {
            return first;
        }
        take();
        Cond others = allOf(land, around);
        return (treaty, t) -> first.holds(treaty, t) && others.holds(treaty, t);
    }

    /** So many ones are around it. */
    private Cond one(Land land, int around) {
        Token first = take();
        if (!Set.of("not", "(", "right", "shaded", "breach", "ahead", "fast", "slow", "broken", "number").contains(first.text())) {
            throw new Fault(1, first.place());
        }
        atMost(ones, 20, first);
        atMost(around, 8, first);
        ones++;
        switch (first.text()) {
            case "not":
                Cond inner = one(land, around + 1);
                return (treaty, t) -> !inner.holds(treaty, t);
            case "(":
                Cond within = cond(land, around + 1);
                must(")");
                return within;
            case "right":
                return (treaty, t) -> treaty.town(t, 1) == 0;
            case "shaded":
                return (treaty, t) -> treaty.town(t, 2) == 1;
            case "breach":
                return (treaty, t) -> treaty.town(t, 3) == 1;
            case "ahead":
                int other = town(land);
                return (treaty, t) -> treaty.town(t, 6) < treaty.town(other, 6);
            case "fast":
                IntPredicate fast = compared();
                return (treaty, t) -> fast.test(Math.max(0, treaty.town(t, 1)));
            case "slow":
                IntPredicate slow = compared();
                return (treaty, t) -> slow.test(Math.max(0, -treaty.town(t, 1)));
            case "broken":
                IntPredicate broken = compared();
                return (treaty, t) -> broken.test(treaty.town(t, 4));
            default:
                IntPredicate number = compared();
                return (treaty, t) -> number.test(t);
        }
    }

    private IntPredicate compared() {
        Token sign = take();
        if (!Set.of("<", "=", ">").contains(sign.text())) {
            throw new Fault(1, sign.place());
        }
        int number = number(0, 999);
        return switch (sign.text()) {
            case "<" -> n -> n < number;
            case "=" -> n -> n == number;
            default -> n -> n > number;
        };
    }

    private Token look() {
        return tokens.get(at);
    }

    private boolean isNext(String text) {
        return look().text().equals(text);
    }

    private Token take() {
        Token token = tokens.get(at);
        // Behind the last token nothing can come, so it stays the one that is looked at.
        at = Math.min(at + 1, tokens.size() - 1);
        return token;
    }

    private void must(String sign) {
        Token token = take();
        if (!token.text().equals(sign)) {
            throw new Fault(1, token.place());
        }
    }

    private static void atMost(int before, int most, Token first) {
        if (before >= most) {
            throw new Fault(4, first.place());
        }
    }

    private int number(int least, int most) {
        Token token = take();
        if (token.sort() != Sort.NUMBER) {
            throw new Fault(1, token.place());
        }
        int number = Integer.parseInt(token.text());
        if (number < least || number > most) {
            throw new Fault(2, token.place());
        }
        return number;
    }

    private int way() {
        Token token = take();
        if (!Set.of("fast", "slow").contains(token.text())) {
            throw new Fault(1, token.place());
        }
        return token.text().equals("fast") ? 1 : -1;
    }

    private Token name() {
        Token token = take();
        boolean isTaken = OF_VALLEYS.contains(token.text()) || OF_BOOKS.contains(token.text())
                || OF_SENTENCES.contains(token.text());
        if (token.sort() != Sort.WORD || isTaken) {
            throw new Fault(1, token.place());
        }
        return token;
    }

    private String newName(Land land) {
        Token name = name();
        if (land.isTold(name.text())) {
            throw new Fault(3, name.place());
        }
        return name.text();
    }

    private int town(Land land) {
        Token name = name();
        int town = land.townNamed(name.text());
        if (town < 0) {
            throw new Fault(3, name.place());
        }
        return town;
    }
}
