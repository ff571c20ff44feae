import java.util.Arrays;
import java.util.function.IntPredicate;

/** All ways to bend towns so that their bends add to nothing, told by the fewest minutes that they take. */
final class PlainEven {
    private static final int NO = 9999;
    /** Seven bends of 30 at most. */
    private static final int MOST_SUM = 210;

    private final int[] bends;
    private final boolean[] isFree;
    /** fewest[t][s + MOST_SUM]: minutes of the towns from t on, so that their bends add to s. */
    private final int[][] fewest;

    PlainEven(int[] bends, IntPredicate isFree) {
        this.bends = bends;
        this.isFree = new boolean[bends.length];
        fewest = new int[bends.length + 1][2 * MOST_SUM + 1];
        for (int[] row : fewest) {
            Arrays.fill(row, NO);
        }
        fewest[bends.length][MOST_SUM] = 0;
        for (int t = bends.length - 1; t >= 0; t--) {
            this.isFree[t] = isFree.test(t);
            for (int sum = -MOST_SUM; sum <= MOST_SUM; sum++) {
                for (int by = -60; by <= 60; by++) {
                    fewest[t][sum + MOST_SUM] = Math.min(fewest[t][sum + MOST_SUM], minutes(t, by, sum));
                }
            }
        }
    }

    /** Minutes of the towns from t on to that sum, if t is bent by so many; NO if it can't be. */
    private int minutes(int t, int by, int sum) {
        int end = bends[t] + by;
        int rest = sum - end + MOST_SUM;
        boolean can = by == 0 || isFree[t] && end >= -30 && end <= 30;
        if (!can || rest < 0 || rest > 2 * MOST_SUM) {
            return NO;
        }
        return Math.min(NO, Math.abs(by) + fewest[t + 1][rest]);
    }

    /** -1: it can't be. */
    int fewest() {
        return fewest[0][MOST_SUM] == NO ? -1 : fewest[0][MOST_SUM];
    }

    /** By how many minutes each town is bent: town by town the fewest that still lead to the fewest in all. */
    int[] first() {
        int[] by = new int[bends.length];
        int sum = 0;
        for (int t = 0; t < bends.length; t++) {
            for (int minutes = 60; minutes >= 0; minutes--) {
                for (int way = -1; way <= 1; way += 2) {
                    if (minutes(t, way * minutes, sum) == fewest[t][sum + MOST_SUM]) {
                        by[t] = way * minutes;
                    }
                }
            }
            sum -= bends[t] + by[t];
        }
        return by;
    }
}
