import java.lang.reflect.Method;
import java.util.Arrays;
import java.util.Comparator;
import java.util.List;
import java.util.Random;

/**
 * Runs of any calls: the class must answer each one as the document's second building does (all
 * promises). With two arguments the runs by the seeds from the first to the second one are made.
 */
final class PlainTest {
    private static final int RUNS = 1500;
    private static final int CALLS = 400;

    private static final List<Method> FACE = Arrays.stream(SundialTreaty.class.getDeclaredMethods())
            .filter(method -> java.lang.reflect.Modifier.isPublic(method.getModifiers()))
            .sorted(Comparator.comparing(Method::getName)).toList();

    private final Random random;
    private final AnyText texts;
    private final SundialTreaty first = new SundialTreaty();
    private final PlainTreaty second = new PlainTreaty();
    private final StringBuilder run = new StringBuilder();
    private boolean isLike = true;

    private PlainTest(int seed) {
        random = new Random(seed);
        texts = new AnyText(random);
    }

    public static void main(String[] args) throws Exception {
        int from = args.length == 2 ? Integer.parseInt(args[0]) : 0;
        int to = args.length == 2 ? Integer.parseInt(args[1]) : RUNS - 1;
        for (int seed = from; seed <= to; seed++) {
            new PlainTest(seed).go();
        }
        Check.finish("PlainTest");
    }

    private void go() throws Exception {
        tape(texts.valley());
        ask("valley");
        for (int i = random.nextInt(4) == 0 ? random.nextInt(8) : 0; i > 0; i--) {
            ask("days", 60);
        }
        for (int i = 0; i < CALLS && isLike; i++) {
            if (random.nextInt(10) == 0) {
                text();
            } else {
                any(FACE.get(random.nextInt(FACE.size())));
            }
        }
    }

    /** Calls that read a tape tell little of one that holds no text, so few of those are made. */
    private void any(Method method) throws Exception {
        boolean isDull = List.of("valley", "book", "sentence", "shadows").contains(method.getName());
        if (!isDull || random.nextInt(30) == 0) {
            ask(method.getName(), arguments(method));
        }
    }

    private void text() throws Exception {
        int towns = first.count(0);
        switch (random.nextInt(13)) {
            case 12:
                tape(" ".repeat(890 + random.nextInt(51)));
                ask("feed", 1, 2, 3, 4, 5);
                ask("valley");
                break;
            case 0:
                tape(texts.spoilt(texts.valley()));
                ask("valley");
                break;
            case 1, 2, 3, 4:
                tape(texts.spoilt(texts.book(towns)));
                ask("book", random.nextInt(2));
                break;
            case 5, 6, 7, 8:
                tape(texts.spoilt(texts.sentence(towns)));
                ask("sentence");
                ask("said", -1);
                break;
            case 9, 10:
                tape(texts.shadows(towns));
                ask("shadows");
                break;
            default:
                tape(texts.pieces());
                ask(List.of("valley", "sentence").get(random.nextInt(2)));
                break;
        }
        ask("fault");
    }

    private void tape(String text) {
        run.append("  tape: ").append(text).append('\n');
        Check.tape(first, text);
        second.end(0);
        for (int at = 0; at < text.length(); at += 20) {
            second.feed(Check.four(text, at), Check.four(text, at + 4), Check.four(text, at + 8), Check.four(text, at + 12),
                    Check.four(text, at + 16));
        }
        second.end(text.length());
    }

    private Object[] arguments(Method method) {
        Object[] all = new Object[method.getParameterCount()];
        for (int i = 0; i < all.length; i++) {
            all[i] = argument(method.getName(), i);
        }
        return all;
    }

    private int argument(String name, int i) {
        if (random.nextInt(60) == 0) {
            return random.nextBoolean() ? random.nextInt() : random.nextInt(1100) - 50;
        }
        switch (name + " " + i) {
            case "due 1":
                return random.nextInt(random.nextBoolean() ? 402 : 20) - 1;
            case "shows 1":
                return random.nextInt(1002) - 1;
            case "route 2":
                return random.nextInt(random.nextInt(4) == 0 ? 1002 : 40) - 1;
            case "bend 1":
                return random.nextInt(random.nextBoolean() ? 23 : 5) - (random.nextBoolean() ? 11 : 2);
            case "days 0", "drawn 0":
                return random.nextInt(random.nextInt(6) == 0 ? 62 : 4);
            case "worst 0", "right 1":
                return random.nextInt(62);
            case "odds 1":
                return random.nextInt(32);
            case "drawn 1", "odds 2", "feed 0", "feed 1", "feed 2", "feed 3", "feed 4":
                return random.nextInt();
            case "votes 1":
                return random.nextInt(random.nextBoolean() ? 123 : 11) - (random.nextBoolean() ? 61 : 5);
            case "byteAt 0", "end 0":
                return random.nextInt(32) - 1;
            case "image 0", "restore 0", "book 0":
                return random.nextInt(4) - 1;
            case "town 1", "train 1", "now 0", "told 0", "said 0", "count 0":
                return random.nextInt(11) - 1;
            case "train 0", "spare 0", "spare 1":
                return near(first.count(2));
            case "routeAt 0":
                return random.nextInt(4) - 1;
            default:
                return near(first.count(0));
        }
    }

    /** Mostly one of so many that are numbered from 0. */
    private int near(int many) {
        return random.nextInt(8) == 0 ? random.nextInt(11) - 1 : random.nextInt(Math.max(1, many));
    }

    private void ask(String name, Object... arguments) throws Exception {
        Object got = Check.answer(first, name, arguments);
        Object due = Check.answer(second, name, arguments);
        run.append("  ").append(name).append(Arrays.toString(arguments)).append(" -> ").append(due).append('\n');
        isLike = got.equals(due);
        Check.yes(isLike ? "" : "the last one of these calls, which answered " + got + ":\n" + run + "  is it as due?", isLike);
    }
}
