import java.lang.management.ManagementFactory;
import java.util.NoSuchElementException;
import java.util.Random;
import java.util.Set;

/**
 * Any calls with any arguments: nothing is thrown but what the document lets be thrown, the same
 * calls give the same answers, and next to nothing is made.
 */
final class AnyCallsTest {
    private static final Set<Integer> MAY_THROW = Set.of(4, 5, 6, 7, 8, 15, 16, 18, 21, 25, 27);

    public static void main(String[] args) {
        for (int seed = 0; seed < 3000; seed++) {
            long first = run(new Random(seed));
            if (seed % 10 == 0) {
                Check.eq("the same calls by seed " + seed, run(new Random(seed)), first);
            }
        }
        makesLittle();
        Check.finish("AnyCallsTest");
    }

    private static long run(Random random) {
        SundialTreaty x = new SundialTreaty();
        long sum = 0;
        for (int i = 0; i < 500; i++) {
            int which = random.nextInt(42);
            if (which == 41) {
                text(x, random);
                continue;
            }
            int a = number(random);
            int b = number(random);
            int c = number(random);
            long answer;
            try {
                answer = call(x, which, a, b, c);
            } catch (NoSuchElementException e) {
                answer = 12345;
                Check.yes("call " + which + " may throw", MAY_THROW.contains(which));
            } catch (RuntimeException e) {
                answer = 54321;
                Check.no("call " + which + " threw " + e, true);
            }
            sum = sum * 31 + answer;
        }
        return sum;
    }

    private static int number(Random random) {
        switch (random.nextInt(12)) {
            case 0:
                return random.nextInt();
            case 1:
                return random.nextInt(1100) - 50;
            case 2:
                return random.nextBoolean() ? Integer.MIN_VALUE : Integer.MAX_VALUE;
            case 3:
                return random.nextInt(62);
            default:
                return random.nextInt(10) - 1;
        }
    }

    private static void text(SundialTreaty x, Random random) {
        AnyText texts = new AnyText(random);
        Check.tape(x, random.nextInt(3) == 0 ? texts.spoilt(texts.valley()) : texts.pieces());
        switch (random.nextInt(4)) {
            case 0:
                x.book(random.nextInt(2));
                break;
            case 1:
                x.sentence();
                break;
            default:
                x.valley();
                break;
        }
    }

    private static long call(SundialTreaty x, int which, int a, int b, int c) {
        switch (which) {
            case 0: return x.feed(a, b, c, a, b);
            case 1: return x.end(a) ? 1 : 0;
            case 2: return x.count(6) == 0 ? 0 : x.valley();
            case 3: return x.fault();
            case 4: return x.town(a, b);
            case 5: return x.due(a, b);
            case 6: return x.train(a, b);
            case 7: return x.shows(a, b);
            case 8: return x.now(a);
            case 9: return x.bend(a, b);
            case 10: return x.shade(a);
            case 11: return x.clear(a);
            case 12: return x.freeze();
            case 13: return x.days(a);
            case 14: return x.undo();
            case 15: return x.noonLong();
            case 16: return x.oneNoon();
            case 17: return x.even();
            case 18: return x.evenAt(a);
            case 19: return x.kept();
            case 20: return x.worst(a);
            case 21: return x.spare(a, b);
            case 22: return x.route(a, b, c);
            case 23: return x.routeAt(a);
            case 24: return x.shadows();
            case 25: return x.votes(a, b);
            case 26: return x.nearer();
            case 27: return x.nearerAt(a);
            case 28: return x.right(a, b);
            case 29: return x.turns(a);
            case 30: return x.motto(a);
            case 31: return x.byteAt(a);
            case 32: return x.drawn(a, b);
            case 33: return x.odds(a, b, c);
            case 34: return x.book(a);
            case 35: return x.told(a);
            case 36: return x.sentence();
            case 37: return x.said(a);
            case 38: return x.image(a) ? 1 : 0;
            case 39: return x.restore(a) ? 1 : 0;
            default: return x.count(a);
        }
    }

    /** All calls of a run share one room, so a call that does not throw makes nothing. */
    private static void makesLittle() {
        com.sun.management.ThreadMXBean bean = (com.sun.management.ThreadMXBean) ManagementFactory.getThreadMXBean();
        long id = Thread.currentThread().getId();
        long made = 0;
        for (int round = 0; round < 3; round++) {
            SundialTreaty x = Check.valley("town a 1 fast 3;town b 20;train k a b 5 6;term a 0 50 fast 2;");
            long from = bean.getThreadAllocatedBytes(id);
            for (int i = 0; i < 400; i++) {
                x.feed(0x72696768, 0x74202020, 0x20202020, 0x20202020, 0x20202020);
                x.sentence();
                x.said(0);
                x.nearer();
                x.odds(0, 30, 1);
                x.route(0, 1, 0);
                x.image(0);
                x.restore(0);
                x.drawn(1, 1);
                x.undo();
                x.motto(0);
                x.even();
                x.kept();
                x.book(1);
            }
            made = bean.getThreadAllocatedBytes(id) - from;
        }
        Check.yes("5600 calls made " + made + " bytes", made < 50000);
    }
}
