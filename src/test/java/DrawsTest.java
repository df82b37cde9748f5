import java.math.BigInteger;

/** Promises 2, 28 and 37: the draws, which wrap around 65536. */
public final class DrawsTest {
    private static final int DRAWS = 65536;

    public static void main(String[] args) {
        everySeedDrawsAllNumbers();
        seedsWrapFromThreeOn();
        aDrawCanBeNothing();
        aDrawCanBeTheGreatest();
        numbersStayBelowAThousand();
        aSeedDoesNotMoveTheDrawOfTrees();
        treesComeRoundAgain();
        eachDrawHasItsSite();
        estimateDrawsTheSeedsFromOne();
        Due.end();
    }

    /** The document's own words, with numbers that know no end. */
    private static int next(int z) {
        BigInteger sum = BigInteger.valueOf(25173).multiply(BigInteger.valueOf(z)).add(BigInteger.valueOf(13849));
        return sum.mod(BigInteger.valueOf(DRAWS)).intValueExact();
    }

    private static int[] allNext() {
        int[] next = new int[DRAWS];
        for (int z = 0; z < DRAWS; z++) {
            next[z] = next(z);
        }
        return next;
    }

    private static void everySeedDrawsAllNumbers() {
        int[] next = allNext();
        for (int seed = 0; seed < DRAWS; seed++) {
            Seepwork x = new Seepwork();
            x.seed(seed);
            int z = seed;
            for (int bond = 0; bond < 60; bond++) {
                z = next[z];
                numberIs("the BOND " + bond, seed, x.numberOf(Seepwork.BONDS, bond), z % 1000);
            }
            for (int site = 0; site < 36; site++) {
                z = next[z];
                numberIs("the SITE " + site, seed, x.site(site, 0), z % 1000);
            }
        }
    }

    private static void numberIs(String what, int seed, int got, int due) {
        if (got != due) {
            Due.is(what + " by the seed " + seed, got, due);
        }
    }

    private static void seedsWrapFromThreeOn() {
        // 65535 is as good as -1: 13849 less 25173, and 65536, together, are 54212.
        Seepwork x = new Seepwork();
        x.seed(65535);
        Due.is("bond(0, 0) by the seed 65535", x.bond(0, 0), 212);
        // The seeds 1 and 2 stay below, by 39022 and 64195.
        x.seed(1);
        Due.is("bond(0, 0) by the seed 1", x.bond(0, 0), 22);
        x.seed(2);
        Due.is("bond(0, 0) by the seed 2", x.bond(0, 0), 195);
        // 3 is the first one that wraps: 89368 is 23832.
        x.seed(3);
        Due.is("bond(0, 0) by the seed 3", x.bond(0, 0), 832);
    }

    private static int seedThatDraws(int drawn) {
        for (int z = 0; z < DRAWS; z++) {
            if (next(z) == drawn) {
                return z;
            }
        }
        return -1;
    }

    private static void aDrawCanBeNothing() {
        Seepwork x = new Seepwork();
        x.seed(seedThatDraws(0));
        Due.is("bond(0, 1) by a draw of 0", x.bond(0, 1), 0);
        Due.is("bond(1, 1) behind a draw of 0", x.bond(1, 1), 849);
    }

    private static void aDrawCanBeTheGreatest() {
        Seepwork x = new Seepwork();
        x.seed(seedThatDraws(65535));
        Due.is("bond(0, 1) by a draw of 65535", x.bond(0, 1), 535);
        Due.is("bond(1, 1) behind a draw of 65535", x.bond(1, 1), 212);
    }

    private static void numbersStayBelowAThousand() {
        Seepwork x = new Seepwork();
        x.seed(seedThatDraws(999));
        Due.is("bond(0, 1) by a draw of 999", x.bond(0, 1), 999);
        x.seed(seedThatDraws(1000));
        Due.is("bond(0, 1) by a draw of 1000", x.bond(0, 1), 0);
        x.seed(seedThatDraws(64999));
        Due.is("bond(0, 1) by a draw of 64999", x.bond(0, 1), 999);
    }

    private static void aSeedDoesNotMoveTheDrawOfTrees() {
        Seepwork x = new Seepwork();
        x.seed(4);
        Due.is("grow(1)", x.grow(1), 1);
        x.seed(65535);
        Due.is("grow(1) behind a seed", x.grow(1), 2);
        Due.is("lightning(25), the first TREE", x.lightning(25), 1);
        Due.is("lightning(34), the second one", x.lightning(34), 1);
    }

    /** All 65536 draws come once until 0 comes again; the next one behind is the first one again, 13849, at 25. */
    private static void treesComeRoundAgain() {
        Seepwork x = new Seepwork();
        for (int i = 0; i < 327; i++) {
            x.grow(200);
        }
        // The last of them draws 0.
        x.grow(136);
        Due.is("lightning(0), where all stand", x.lightning(0), 36);
        Due.is("grow(1) behind 65536 draws", x.grow(1), 1);
        Due.is("lightning(25)", x.lightning(25), 1);
        Due.is("grow(1) behind that", x.grow(1), 1);
        Due.is("lightning(34)", x.lightning(34), 1);
    }

    /** Each TREE burns before the next one grows, so each draw shows where it falls. */
    private static void eachDrawHasItsSite() {
        Seepwork x = new Seepwork();
        int d = 0;
        for (int i = 0; i < 250; i++) {
            d = next(d);
            Due.is("grow(1) of empty woods", x.grow(1), 1);
            Due.is("lightning(" + d % 36 + ") at the draw " + i, x.lightning(d % 36), 1);
        }
    }

    /** By the first n seeds there is a span from the EDGE of one of them on, and the seed 0 is none of them. */
    private static void estimateDrawsTheSeedsFromOne() {
        int[] edges = new int[31];
        for (int seed = 1; seed <= 30; seed++) {
            Seepwork drawn = new Seepwork();
            drawn.seed(seed);
            edges[seed] = drawn.edge(Seepwork.BOTH, false);
        }
        for (int n = 1; n <= 30; n++) {
            Seepwork x = new Seepwork();
            x.seed(999);
            int p = edges[n];
            Due.is("estimate(BOTH, " + p + ", " + n + ")", x.estimate(Seepwork.BOTH, p, n), countUpTo(p, edges, n));
            p--;
            Due.is("estimate(BOTH, " + p + ", " + n + ")", x.estimate(Seepwork.BOTH, p, n), countUpTo(p, edges, n));
        }
    }

    private static int countUpTo(int p, int[] edges, int n) {
        int count = 0;
        for (int seed = 1; seed <= n; seed++) {
            count += edges[seed] <= p ? 1 : 0;
        }
        return count;
    }
}
