import java.util.NoSuchElementException;
import java.util.function.IntSupplier;

/** What all tests of the project share: counted checks, and texts put on a tape. */
final class Check {
    private static int wrong = 0;
    private static int done = 0;

    private Check() {
    }

    static void eq(String what, long got, long want) {
        done++;
        if (got != want) {
            wrong++;
            System.out.println(what + " answered " + got + ", due is " + want);
        }
    }

    static void yes(String what, boolean got) {
        eq(what, got ? 1 : 0, 1);
    }

    static void no(String what, boolean got) {
        eq(what, got ? 1 : 0, 0);
    }

    /** The call must throw a NoSuchElementException, and no other. */
    static void none(String what, IntSupplier call) {
        done++;
        try {
            int got = call.getAsInt();
            wrong++;
            System.out.println(what + " answered " + got + ", due is NoSuchElementException");
        } catch (NoSuchElementException e) {
            if (e.getClass() != NoSuchElementException.class) {
                wrong++;
                System.out.println(what + " threw " + e);
            }
        }
    }

    static int orThrown(IntSupplier call, int thrown) {
        try {
            return call.getAsInt();
        } catch (NoSuchElementException e) {
            return thrown;
        }
    }

    /** The tape holds the text alone, a byte for each character. */
    static void tape(SundialTreaty x, String text) {
        x.end(0);
        for (int at = 0; at < text.length(); at += 20) {
            x.feed(four(text, at), four(text, at + 4), four(text, at + 8), four(text, at + 12), four(text, at + 16));
        }
        if (!x.end(text.length())) {
            throw new IllegalStateException("the tape is too short for the test's text");
        }
    }

    private static int four(String text, int at) {
        int all = 0;
        for (int i = at; i < at + 4; i++) {
            all = all << 8 | (i < text.length() ? text.charAt(i) & 255 : 0);
        }
        return all;
    }

    static SundialTreaty valley(String text) {
        SundialTreaty x = new SundialTreaty();
        tape(x, text);
        int lines = x.valley();
        if (lines < 0) {
            wrong++;
            System.out.println("no valley: " + text + " answered " + lines);
        }
        return x;
    }

    /** The text must be refused with a fault of that kind at that place. */
    static void valleyFault(String text, int kind, int place) {
        SundialTreaty x = new SundialTreaty();
        tape(x, text);
        eq("valley() of " + brief(text), x.valley(), -1 - place);
        eq("fault() of " + brief(text), x.fault(), kind);
        eq("count(0) behind " + brief(text), x.count(0), 0);
        eq("count(6) behind " + brief(text), x.count(6), 0);
    }

    static String brief(String text) {
        return text.length() <= 80 ? text : text.substring(0, 30) + ".." + text.substring(text.length() - 30);
    }

    static String blanks(int n) {
        return " ".repeat(n);
    }

    static void finish(String name) {
        System.out.println(name + ": " + done + " checks, " + wrong + " wrong");
        if (wrong != 0 || done == 0) {
            System.exit(1);
        }
    }
}
