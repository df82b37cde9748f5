/** Promises 8 to 16. */
public final class ThresholdsTest {
    private static final int NONE = Seepwork.NONE;
    private static final int BONDS = Seepwork.BONDS;
    private static final int SITES = Seepwork.SITES;
    private static final int BOTH = Seepwork.BOTH;

    public static void main(String[] args) {
        promise8Cluster();
        promise9Sizes();
        promise10Spans();
        promise11And12Edge();
        promise13And14WaysAndCut();
        promise15Red();
        promise16Shortest();
        wrongKindsAndThresholds();
        Due.end();
    }

    /** All NUMBERS of BONDS are 900, but for the top row's, which are 100, 101 and so on. */
    private static Seepwork withTopRow() {
        Seepwork x = new Seepwork();
        for (int bond = 0; bond < 60; bond++) {
            x.bond(bond, bond < 5 ? 100 + bond : 900);
        }
        return x;
    }

    private static void promise8Cluster() {
        Seepwork x = withTopRow();
        Due.is("cluster(BONDS, 104, 4)", x.cluster(BONDS, 104, 4), 0);
        Due.is("cluster(BONDS, 104, 5)", x.cluster(BONDS, 104, 5), 5);
        Due.is("cluster(BONDS, 105, 5)", x.cluster(BONDS, 105, 5), 0);
        Due.is("cluster(BONDS, 105, 0)", x.cluster(BONDS, 105, 0), 0);
        Due.is("cluster(BONDS, 900, 35)", x.cluster(BONDS, 900, 35), 35);
        Due.is("cluster(BONDS, 901, 35)", x.cluster(BONDS, 901, 35), 0);
        Due.is("cluster(BONDS, 0, 35)", x.cluster(BONDS, 0, 35), 35);
        Due.is("cluster(SITES, 0, 35)", x.cluster(SITES, 0, 35), NONE);
        Due.is("cluster(BOTH, 0, 35)", x.cluster(BOTH, 0, 35), NONE);
        Due.is("cluster(SITES, 1, 35)", x.cluster(SITES, 1, 35), 0);
        Due.is("cluster(BOTH, 1, 35)", x.cluster(BOTH, 1, 35), 35);
        x.site(2, 500);
        Due.is("cluster(BONDS, 105, 5)", x.cluster(BONDS, 105, 5), 0);
        Due.is("cluster(BOTH, 500, 5)", x.cluster(BOTH, 500, 5), 3);
        Due.is("cluster(BOTH, 500, 2)", x.cluster(BOTH, 500, 2), NONE);
        Due.is("cluster(BOTH, 501, 5)", x.cluster(BOTH, 501, 5), 0);
        Due.is("cluster(SITES, 500, 5)", x.cluster(SITES, 500, 5), 0);
        x.shut(1, true);
        Due.is("cluster(BONDS, 1000, 1)", x.cluster(BONDS, 1000, 1), NONE);
        Due.is("cluster(BONDS, 105, 5)", x.cluster(BONDS, 105, 5), 2);
        Due.noSuch(x, "cluster(0, 5, -1)", () -> x.cluster(0, 5, -1));
        Due.noSuch(x, "cluster(0, 5, 36)", () -> x.cluster(0, 5, 36));
        Due.noSuch(x, "cluster(9, 5000, 36)", () -> x.cluster(9, 5000, 36));
        Due.outOfRange(x, "cluster(3, 5, 0)", () -> x.cluster(3, 5, 0));
        Due.outOfRange(x, "cluster(-1, 5, 0)", () -> x.cluster(-1, 5, 0));
        Due.outOfRange(x, "cluster(0, -1, 0)", () -> x.cluster(0, -1, 0));
        Due.outOfRange(x, "cluster(0, 1001, 0)", () -> x.cluster(0, 1001, 0));
    }

    private static void sizesAre(Seepwork x, int kind, int p, int... due) {
        for (int what = 0; what <= 2; what++) {
            Due.is("sizes(" + kind + ", " + p + ", " + what + ")", x.sizes(kind, p, what), due[what]);
        }
    }

    private static void promise9Sizes() {
        Seepwork x = withTopRow();
        sizesAre(x, BONDS, 0, 36, 1, 36);
        sizesAre(x, BONDS, 101, 35, 2, 4 + 34);
        sizesAre(x, BONDS, 105, 31, 6, 36 + 30);
        sizesAre(x, BONDS, 1000, 1, 36, 1296);
        sizesAre(x, SITES, 0, 0, 0, 0);
        sizesAre(x, SITES, 1, 1, 36, 1296);
        sizesAre(x, BOTH, 0, 0, 0, 0);
        for (int site = 12; site < 18; site++) {
            x.shut(site, true);
        }
        sizesAre(x, BONDS, 1000, 2, 18, 12 * 12 + 18 * 18);
        x.strike(36);
        sizesAre(x, BONDS, 1000, 0, 0, 0);
        Due.outOfRange(x, "sizes(0, 5, -1)", () -> x.sizes(0, 5, -1));
        Due.outOfRange(x, "sizes(0, 5, 3)", () -> x.sizes(0, 5, 3));
    }

    private static void promise10Spans() {
        Seepwork x = withTopRow();
        Due.is("spans(BONDS, 104, false)", x.spans(BONDS, 104, false), false);
        Due.is("spans(BONDS, 105, false)", x.spans(BONDS, 105, false), true);
        Due.is("spans(BONDS, 105, true)", x.spans(BONDS, 105, true), false);
        Due.is("spans(BONDS, 901, true)", x.spans(BONDS, 901, true), true);
        Due.is("spans(SITES, 0, true)", x.spans(SITES, 0, true), false);
        Due.is("spans(SITES, 1, true)", x.spans(SITES, 1, true), true);
        x.shut(0, true);
        Due.is("spans(BONDS, 105, false)", x.spans(BONDS, 105, false), false);
        Due.is("spans(BONDS, 901, false)", x.spans(BONDS, 901, false), true);
        for (int row = 0; row < 6; row++) {
            x.shut(6 * row + 3, true);
        }
        Due.is("spans(BONDS, 1000, false)", x.spans(BONDS, 1000, false), false);
        Due.is("spans(BONDS, 1000, true)", x.spans(BONDS, 1000, true), true);
    }

    private static void edgesAre(Seepwork x, int kind, boolean isDown, int due) {
        Due.is("edge(" + kind + ", " + isDown + ")", x.edge(kind, isDown), due);
        Due.is("edgeAnew(" + kind + ", " + isDown + ")", x.edgeAnew(kind, isDown), due);
    }

    private static void promise11And12Edge() {
        Seepwork x = withTopRow();
        edgesAre(x, BONDS, false, 105);
        edgesAre(x, BONDS, true, 901);
        edgesAre(x, SITES, false, 1);
        edgesAre(x, BOTH, false, 105);
        for (int site = 0; site < 36; site++) {
            x.site(site, 999);
        }
        edgesAre(x, BONDS, false, 105);
        edgesAre(x, SITES, true, 1000);
        edgesAre(x, BOTH, true, 1000);
        x.shut(5, true);
        edgesAre(x, BONDS, false, 901);
        edgesAre(new Seepwork(), BONDS, true, 1);
        for (int row = 0; row < 6; row++) {
            x.shut(6 * row + 3, true);
        }
        edgesAre(x, SITES, false, NONE);
        edgesAre(x, BONDS, false, NONE);
        edgesAre(x, SITES, true, 1000);
        x.strike(36);
        edgesAre(x, BOTH, true, NONE);
        for (int seed = 0; seed < 60; seed++) {
            edgesOfNewOnesAreTheFirst(seed);
        }
        for (int kind : new int[] {-1, 3}) {
            Due.outOfRange(x, "edge(" + kind + ", true)", () -> x.edge(kind, true));
            Due.outOfRange(x, "edgeAnew(" + kind + ", true)", () -> x.edgeAnew(kind, true));
        }
    }

    private static void edgesOfNewOnesAreTheFirst(int seed) {
        Seepwork[] all = {new Seepwork(), new Seepwork(), new Seepwork(), new Seepwork()};
        for (int i = 0; i < 4; i++) {
            Seepwork x = all[i];
            x.seed(seed);
            x.strike(seed % 5);
            boolean isDown = i % 2 == 1;
            int kind = seed % 3;
            int edge = i < 2 ? x.edge(kind, isDown) : x.edgeAnew(kind, isDown);
            String shown = "seed " + seed + ", KIND " + kind + ", ";
            Due.is(shown + "spans at the EDGE", edge == NONE || x.spans(kind, edge, isDown), true);
            Due.is(shown + "spans below it", x.spans(kind, edge == NONE ? 1000 : edge - 1, isDown), false);
        }
    }

    private static void waysAre(Seepwork x, int kind, int p, int due) {
        Due.is("ways(" + kind + ", " + p + ")", x.ways(kind, p), due);
        Due.is("cut(" + kind + ", " + p + ")", x.cut(kind, p), due);
    }

    private static void promise13And14WaysAndCut() {
        Seepwork x = withTopRow();
        waysAre(x, BONDS, 0, 0);
        waysAre(x, BONDS, 104, 0);
        waysAre(x, BONDS, 105, 1);
        waysAre(x, BONDS, 1000, 6);
        waysAre(x, SITES, 0, 0);
        waysAre(x, SITES, 1, 6);
        waysAre(x, BOTH, 1, 0);
        waysAre(x, BOTH, 105, 1);
        // Through one gap in a wall only one BOND leads on.
        for (int row = 0; row < 6; row++) {
            x.shut(6 * row + 3, row != 2);
        }
        waysAre(x, BONDS, 1000, 1);
        x.shut(2, true);
        x.shut(6 * 2 + 3, true);
        waysAre(x, BONDS, 1000, 0);
        twoWaysShareSites();
        aWayHasToTurnBack();
        oneBondHoldsTwoUp();
    }

    private static Seepwork withOpen(int... bonds) {
        Seepwork x = new Seepwork();
        for (int bond = 0; bond < 60; bond++) {
            x.bond(bond, 900);
        }
        for (int bond : bonds) {
            x.bond(bond, 0);
        }
        return x;
    }

    private static void twoWaysShareSites() {
        // One way comes from 6 and one from 12, and both lead over the SITE 15.
        Seepwork x = withOpen(5, 6, 7, 10, 11, 12, 13, 14, 39, 45, 18, 19);
        // To 15 by 14-15 (12) and 9-15 (39); from 15 on by 15-16-17 (13, 14) and by 15-21 (45), 21-22-23 (18, 19).
        waysAre(x, BONDS, 1, 2);
        x.bond(45, 900);
        waysAre(x, BONDS, 1, 1);
        x.bond(45, 0);
        x.bond(39, 900);
        waysAre(x, BONDS, 1, 1);
        // Both share that SITE, so none is left without it.
        x.bond(39, 0);
        x.shut(15, true);
        waysAre(x, BONDS, 1, 0);
    }

    /** Here the first way that is found bars a second one, unless it gives a BOND back. */
    private static void aWayHasToTurnBack() {
        Seepwork x = new Seepwork();
        x.seed(8);
        waysAre(x, BONDS, 550, 2);
        Due.is("spans(BONDS, 550, false)", x.spans(BONDS, 550, false), true);
        Due.is("red(BONDS, 550), as each loss leaves a way", x.red(BONDS, 550), 0);
        x.seed(4);
        waysAre(x, BONDS, 775, 3);
    }

    /** Two ways lead to one BOND and two on from it, in each of the directions in which it can be gone over. */
    private static void oneBondHoldsTwoUp() {
        // From the rows of 18 and 24 to 20, up to 14, on by the rows of 12 and 6.
        Seepwork up = withOpen(15, 16, 20, 21, 50, 44, 12, 13, 14, 38, 7, 8, 9);
        waysAre(up, BONDS, 1, 1);
        Due.is("red(BONDS, 1), by 44", up.red(BONDS, 1), 1);
        // The same turned over: from the rows of 6 and 12 to 14, down to 20, on by the rows of 18 and 24.
        Seepwork down = withOpen(5, 6, 38, 10, 11, 44, 17, 18, 19, 50, 22, 23, 24);
        waysAre(down, BONDS, 1, 1);
        Due.is("red(BONDS, 1), by 44", down.red(BONDS, 1), 1);
        // From the rows of 0 and 6 to 9, to 15 by 9-15 and 9-10-16-15, back to 14, to 20 by 14-20 and 14-13-19-20.
        Seepwork back = withOpen(0, 1, 2, 33, 5, 6, 7, 39, 8, 40, 13, 12, 44, 11, 43, 16, 17, 18, 19, 50, 22, 23, 24);
        waysAre(back, BONDS, 1, 1);
        Due.is("red(BONDS, 1), by 12", back.red(BONDS, 1), 1);
        Due.is("shortest(BONDS, 1)", back.shortest(BONDS, 1), 3 + 1 + 1 + 1 + 3);
    }

    private static void promise15Red() {
        Seepwork x = withTopRow();
        Due.is("red(BONDS, 104)", x.red(BONDS, 104), 0);
        Due.is("red(BONDS, 105)", x.red(BONDS, 105), 5);
        Due.is("red(BONDS, 901)", x.red(BONDS, 901), 0);
        Due.is("red(SITES, 0)", x.red(SITES, 0), 0);
        // A loop 0-6-7-1 beside BOND 0 makes that one, and the three others, no red ones: 4 stay.
        x.bond(30, 50);
        x.bond(31, 50);
        x.bond(5, 50);
        Due.is("red(BONDS, 105)", x.red(BONDS, 105), 4);
        Due.is("red(BOTH, 105)", x.red(BOTH, 105), 4);
        x.site(6, 700);
        // 7 is no SITE of the left column, so BOND 0 is red again.
        Due.is("red(BOTH, 105)", x.red(BOTH, 105), 5);
        Due.is("red(BONDS, 105)", x.red(BONDS, 105), 4);
        x.shut(3, true);
        Due.is("red(BONDS, 105)", x.red(BONDS, 105), 0);
        Seepwork y = new Seepwork();
        for (int row = 0; row < 6; row++) {
            y.shut(6 * row + 2, row != 4);
            y.shut(6 * row + 3, row != 4);
        }
        // 25-26-27-28 is the only way through the wall.
        Due.is("red(BONDS, 1) through a wall", y.red(BONDS, 1), 3);
        Due.is("red(BONDS, 1) again, as questions change nothing", y.red(BONDS, 1), 3);
    }

    private static void promise16Shortest() {
        Seepwork x = withTopRow();
        Due.is("shortest(BONDS, 104)", x.shortest(BONDS, 104), NONE);
        Due.is("shortest(BONDS, 105)", x.shortest(BONDS, 105), 5);
        Due.is("shortest(SITES, 0)", x.shortest(SITES, 0), NONE);
        Due.is("shortest(SITES, 1)", x.shortest(SITES, 1), 5);
        // Around BOND 2 by the row below: 2-8-9-3.
        x.bond(2, 950);
        x.bond(32, 50);
        x.bond(33, 50);
        x.bond(7, 50);
        Due.is("shortest(BONDS, 105)", x.shortest(BONDS, 105), 7);
        x.site(8, 400);
        Due.is("shortest(BOTH, 105)", x.shortest(BOTH, 105), NONE);
        Due.is("shortest(BOTH, 401)", x.shortest(BOTH, 401), 7);
        Seepwork y = new Seepwork();
        for (int row = 0; row < 5; row++) {
            y.shut(6 * row + 1, true);
            y.shut(6 * (row + 1) + 3, true);
        }
        // From 30 on along the bottom to 32, up to 2, along the top to 5.
        Due.is("shortest(BONDS, 1) by a detour", y.shortest(BONDS, 1), 2 + 5 + 3);
    }

    private static void wrongKindsAndThresholds() {
        Seepwork x = new Seepwork();
        int[][] wrong = {{-1, 5}, {3, 5}, {0, -1}, {0, 1001}, {2, Integer.MAX_VALUE}, {Integer.MIN_VALUE, 0}};
        for (int[] pair : wrong) {
            int kind = pair[0];
            int p = pair[1];
            String shown = "(" + kind + ", " + p + ")";
            Due.outOfRange(x, "sizes" + shown, () -> x.sizes(kind, p, 0));
            Due.outOfRange(x, "spans" + shown, () -> x.spans(kind, p, true));
            Due.outOfRange(x, "ways" + shown, () -> x.ways(kind, p));
            Due.outOfRange(x, "cut" + shown, () -> x.cut(kind, p));
            Due.outOfRange(x, "red" + shown, () -> x.red(kind, p));
            Due.outOfRange(x, "shortest" + shown, () -> x.shortest(kind, p));
        }
    }
}
