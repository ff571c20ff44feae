import java.lang.reflect.InvocationTargetException;
import java.util.Arrays;
import java.util.NoSuchElementException;
import java.util.function.IntSupplier;
import java.util.function.IntUnaryOperator;

/** What all tests of the project share: counted checks, and texts put on a tape. */
final class Check {
    private static int wrong = 0;
    private static int done = 0;
    private static int sentences = 0;
    private static String words = "";

    private Check() {
    }

    static void eq(String what, long got, long want) {
        done++;
        if (got != want) {
            say(what + " answered " + got + ", due is " + want);
        }
    }

    private static void say(String line) {
        wrong++;
        System.out.println(words + line);
    }

    /**
     * A test of its own for what a sentence of the document tells: its words stand ahead of each
     * line that the test prints. A test that checks nothing, or that is cut off, is wrong too.
     */
    static void sentence(String told, Runnable test) {
        int before = done;
        words = "'" + told + "': ";
        sentences++;
        try {
            test.run();
            if (done == before) {
                say("nothing was checked");
            }
        } catch (RuntimeException | StackOverflowError e) {
            say("the test was cut off by " + e);
        }
        words = "";
    }

    static void yes(String what, boolean got) {
        eq(what, got ? 1 : 0, 1);
    }

    static void no(String what, boolean got) {
        eq(what, got ? 1 : 0, 0);
    }

    /** The call must throw a NoSuchElementException, and no other. */
    static void none(String what, IntSupplier call) {
        done++;
        try {
            int got = call.getAsInt();
            say(what + " answered " + got + ", due is NoSuchElementException");
        } catch (NoSuchElementException e) {
            if (e.getClass() != NoSuchElementException.class) {
                say(what + " threw " + e);
            }
        }
    }

    static int orThrown(IntSupplier call, int thrown) {
        try {
            return call.getAsInt();
        } catch (NoSuchElementException e) {
            return thrown;
        }
    }

    /** Asked by the call's name; an exception's name stands for the answer of a call that throws. */
    static Object answer(Object treaty, String name, Object... numbers) throws ReflectiveOperationException {
        Class<?>[] kinds = new Class<?>[numbers.length];
        Arrays.fill(kinds, int.class);
        try {
            return treaty.getClass().getMethod(name, kinds).invoke(treaty, numbers);
        } catch (InvocationTargetException e) {
            return e.getCause().getClass().getSimpleName();
        }
    }

    /** The tape holds the text alone, a byte for each character. */
    static void tape(SundialTreaty x, String text) {
        x.end(0);
        for (int at = 0; at < text.length(); at += 20) {
            x.feed(four(text, at), four(text, at + 4), four(text, at + 8), four(text, at + 12), four(text, at + 16));
        }
        if (!x.end(text.length())) {
            throw new IllegalStateException("the text is longer than a tape");
        }
    }

    static int four(String text, int at) {
        int all = 0;
        for (int i = at; i < at + 4; i++) {
            all = all << 8 | (i < text.length() ? text.charAt(i) & 255 : 0);
        }
        return all;
    }

    static SundialTreaty valley(String text) {
        SundialTreaty x = new SundialTreaty();
        tape(x, text);
        int lines = x.valley();
        if (lines < 0) {
            say("no valley: " + text + " answered " + lines);
        }
        return x;
    }

    /** The same valley on a later day, nothing but days gone by. */
    static SundialTreaty valleyOn(int day, String text) {
        SundialTreaty x = valley(text);
        toDay(x, day);
        return x;
    }

    static void toDay(SundialTreaty x, int day) {
        while (x.now(0) < day && x.days(Math.min(60, day - x.now(0))) > 0) {
            // The next days go by.
        }
        if (x.now(0) != day) {
            throw new IllegalStateException("it is day " + x.now(0) + ", not " + day);
        }
    }

    /** The text must be refused with a fault of that kind at that place. */
    static void valleyFault(String text, int kind, int place) {
        SundialTreaty x = new SundialTreaty();
        tape(x, text);
        eq("valley() of " + brief(text), x.valley(), -1 - place);
        eq("fault() of " + brief(text), x.fault(), kind);
        eq("count(0) behind " + brief(text), x.count(0), 0);
        eq("count(6) behind " + brief(text), x.count(6), 0);
    }

    /** All that can be asked for without a change, but the tape's length and the latest fault. */
    static String all(SundialTreaty x) {
        return land(x) + toldLast(x);
    }

    /** The valley, all that is so and the sentence: what an image keeps. */
    static String land(SundialTreaty x) {
        StringBuilder all = new StringBuilder();
        put(all, "count", 6, x::count);
        put(all, "now", 7, x::now);
        for (int i = 0; i < x.count(0); i++) {
            int t = i;
            put(all, "town " + t, 9, what -> x.town(t, what));
            put(all, "due " + t, 9, part -> x.due(t, Math.min(399, 50 * part)));
        }
        for (int i = 0; i < x.count(2); i++) {
            int k = i;
            put(all, "train " + k, 7, what -> x.train(k, what));
        }
        put(all, "said", 8, k -> x.said(k - 1));
        return all.toString();
    }

    /** What calls told last, and what stays till the next such call. */
    static String toldLast(SundialTreaty x) {
        StringBuilder all = new StringBuilder();
        put(all, "told", 4, x::told);
        put(all, "route", 9, x::routeAt);
        put(all, "motto", 40, x::byteAt);
        put(all, "even", 7, x::evenAt);
        put(all, "nearer", 7, x::nearerAt);
        return all.toString();
    }

    private static void put(StringBuilder all, String what, int most, IntUnaryOperator ask) {
        all.append(what).append(':');
        for (int i = 0; i < most; i++) {
            int at = i;
            all.append(' ').append(orThrown(() -> ask.applyAsInt(at), 9999));
        }
        all.append('\n');
    }

    /** The call must leave all as it is, the tape and the latest fault too. */
    static void stays(String what, SundialTreaty x, Runnable call) {
        String before = all(x) + x.count(6) + " " + x.fault();
        call.run();
        String behind = all(x) + x.count(6) + " " + x.fault();
        yes(what + " leaves all as it is", before.equals(behind));
    }

    /** It must throw a NoSuchElementException and leave all as it is. */
    static void noneAndStays(String what, SundialTreaty x, IntSupplier call) {
        stays(what, x, () -> none(what, call));
    }

    /** It must answer so and leave all as it is. */
    static void eqAndStays(String what, SundialTreaty x, IntSupplier call, int want) {
        stays(what, x, () -> eq(what, call.getAsInt(), want));
    }

    static String brief(String text) {
        return text.length() <= 80 ? text : text.substring(0, 30) + ".." + text.substring(text.length() - 30);
    }

    static String blanks(int n) {
        return " ".repeat(n);
    }

    static void finish(String name) {
        String tests = sentences == 0 ? "" : sentences + " sentences, ";
        System.out.println(name + ": " + tests + done + " checks, " + wrong + " wrong");
        if (wrong != 0 || done == 0) {
            System.exit(1);
        }
    }
}
