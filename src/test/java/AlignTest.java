/**
 * Alignments of rows of up to 30 spans, compared with ones that are compared as wholes: for each rest of both tiers
 * the best one is kept as a row of partners, as all alignments of long rows are too many to be tried (ModelTest does
 * so for short ones).
 */
public final class AlignTest extends Checks {
    private static final int RUNS = 400;
    private static final int MOST_SPANS = 30;
    private static final int NONE_GIVEN = -1;

    private final Counted x = book(SIGNS, WORDS);
    private final int[][][] spans = new int[2][][];
    private final int window;
    private int[][][] best;
    private long seed;

    private AlignTest(int run) {
        seed = run * 104729L + 11;
        place = "run " + run;
        window = new int[] {0, 3, 20, 50, 200}[run % 5];
        x.setSetting(0, window);
        int length = new int[] {1, 4, 15, 30}[run / 5 % 4];
        for (int tier = 0; tier < 2; tier++) {
            spans[tier] = new int[run < RUNS / 2 ? MOST_SPANS : 1 + next(MOST_SPANS)][];
            tell(tier, length);
        }
    }

    private int next(int bound) {
        seed = seed * 6364136223846793005L + 1442695040888963407L;
        return (int) ((seed >>> 33) % bound);
    }

    /** Spans of one length more often than not, so that many alignments have the same sum. */
    private void tell(int tier, int length) {
        int free = next(3);
        for (int i = 0; i < spans[tier].length; i++) {
            int first = free + next(3) % 2;
            int end = first + (next(3) == 0 ? 1 + next(length) : length);
            spans[tier][i] = new int[] {first, end};
            add(x, tier, first, end, "a");
            free = end;
        }
    }

    private static int distance(int[] one, int[] two) {
        return Math.abs(one[0] - two[0]) + Math.abs(one[1] - two[1]);
    }

    private int pairs(int[] partners) {
        int pairs = 0;
        for (int partner : partners) {
            pairs += partner != NONE_GIVEN ? 1 : 0;
        }
        return pairs;
    }

    /** The distances of the last spans of a tier with their partners. */
    private int sum(int tier, int[] partners) {
        int sum = 0;
        int from = spans[tier].length - partners.length;
        for (int i = 0; i < partners.length; i++) {
            sum += partners[i] == NONE_GIVEN ? 0 : distance(spans[tier][from + i], spans[1 - tier][partners[i]]);
        }
        return sum;
    }

    private boolean isBetter(int tier, int[] one, int[] two) {
        if (pairs(one) != pairs(two)) {
            return pairs(one) > pairs(two);
        }
        if (sum(tier, one) != sum(tier, two)) {
            return sum(tier, one) < sum(tier, two);
        }
        for (int i = 0; i < one.length; i++) {
            if (one[i] != two[i]) {
                return two[i] == NONE_GIVEN || one[i] != NONE_GIVEN && one[i] < two[i];
            }
        }
        return false;
    }

    private static int[] ahead(int partner, int[] rest) {
        int[] all = new int[rest.length + 1];
        all[0] = partner;
        System.arraycopy(rest, 0, all, 1, rest.length);
        return all;
    }

    /** The best alignment of the spans from one number on with those of the other tier from another number on. */
    private int[] best(int tier, int from, int free) {
        if (from == spans[tier].length) {
            return new int[0];
        }
        if (best[from][free] != null) {
            return best[from][free];
        }
        int[] found = ahead(NONE_GIVEN, best(tier, from + 1, free));
        for (int partner = free; partner < spans[1 - tier].length; partner++) {
            if (distance(spans[tier][from], spans[1 - tier][partner]) <= window) {
                int[] other = ahead(partner, best(tier, from + 1, partner + 1));
                found = isBetter(tier, other, found) ? other : found;
            }
        }
        best[from][free] = found;
        return found;
    }

    private void check() {
        for (int tier = 0; tier < 2; tier++) {
            best = new int[MOST_SPANS + 1][MOST_SPANS + 1][];
            int[] due = best(tier, 0, 0);
            String what = "tier " + tier + ", window " + window + ": ";
            is(what + "pairs", x.alignment(tier, 1 - tier, true), pairs(due));
            is(what + "distances", x.alignment(tier, 1 - tier, false), sum(tier, due));
            for (int i = 0; i < due.length; i++) {
                is(what + "given to " + i, x.aligned(tier, 1 - tier, i), due[i]);
            }
        }
    }

    public static void main(String[] args) {
        for (int run = 0; run < RUNS; run++) {
            new AlignTest(run).check();
        }
        end();
    }
}
