/** Promises 25 to 29. */
public final class WetAndWoodsTest {
    public static void main(String[] args) {
        promise25Wet();
        promise26Filled();
        promise27LeastWet();
        promise28Grow();
        promise29Lightning();
        Due.end();
    }

    private static void promise25Wet() {
        Seepwork x = new Seepwork();
        Due.is("wet(0, false)", x.wet(0, false), false);
        Due.is("wet(0, true)", x.wet(0, true), false);
        Due.is("wet(0, true)", x.wet(0, true), true);
        Due.is("count(2)", x.count(2), 1);
        Due.is("wet(0, false)", x.wet(0, false), true);
        Due.is("count(2)", x.count(2), 0);
        Due.is("wet(35, true)", x.wet(35, true), false);
        Due.is("count(2)", x.count(2), 1);
        x.shut(7, true);
        Due.badState(x, "wet(7, true)", () -> x.wet(7, true));
        Due.badState(x, "wet(7, false)", () -> x.wet(7, false));
        Due.noSuch(x, "wet(-1, true)", () -> x.wet(-1, true));
        Due.noSuch(x, "wet(36, false)", () -> x.wet(36, false));
    }

    private static void filledIs(Seepwork x, int k, int many, int rounds) {
        Due.is("filled(" + k + ", 0)", x.filled(k, 0), many);
        Due.is("filled(" + k + ", 1)", x.filled(k, 1), rounds);
    }

    private static void promise26Filled() {
        Seepwork x = new Seepwork();
        filledIs(x, 1, 0, 0);
        x.wet(0, true);
        filledIs(x, 1, 36, 10);
        filledIs(x, 2, 1, 0);
        for (int i = 1; i < 6; i++) {
            x.wet(7 * i, true);
        }
        filledIs(x, 1, 36, 5);
        filledIs(x, 2, 36, 5);
        filledIs(x, 3, 6, 0);
        Due.is("count(2), as questions change nothing", x.count(2), 6);
        // Without 1 the rest of the top row, 2 to 5, has but one WET one beside each, from below.
        x.shut(1, true);
        filledIs(x, 2, 31, 5);
        Seepwork y = new Seepwork();
        for (int site : new int[] {8, 13, 15, 20}) {
            y.wet(site, true);
        }
        filledIs(y, 4, 5, 1);
        filledIs(y, 3, 5, 1);
        Seepwork z = new Seepwork();
        for (int site = 0; site < 36; site++) {
            z.wet(site, true);
        }
        filledIs(z, 1, 36, 0);
        z.wet(0, false);
        filledIs(z, 2, 36, 1);
        filledIs(z, 3, 35, 0);
        for (int k : new int[] {0, 5, -1}) {
            Due.outOfRange(z, "filled(" + k + ", 0)", () -> z.filled(k, 0));
        }
        Due.outOfRange(z, "filled(1, -1)", () -> z.filled(1, -1));
        Due.outOfRange(z, "filled(1, 2)", () -> z.filled(1, 2));
        manyRounds();
    }

    private static Seepwork withShutAndWet(int[] shut, int[] wet) {
        Seepwork x = new Seepwork();
        for (int site : shut) {
            x.shut(site, true);
        }
        for (int site : wet) {
            x.wet(site, true);
        }
        return x;
    }

    /** As many rounds as were ever found: by a need of 1 along a winding way, by greater ones through gaps. */
    private static void manyRounds() {
        int[] walls = {2, 7, 10, 13, 15, 16, 19, 22, 26, 27};
        filledIs(withShutAndWet(walls, new int[] {1}), 1, 26, 23);
        filledIs(withShutAndWet(new int[] {5, 19, 28}, new int[] {0, 4, 8, 11, 18, 25, 29, 34}), 2, 33, 23);
        int[] wet = {0, 2, 3, 4, 6, 7, 11, 12, 13, 15, 17, 18, 21, 23, 24, 26, 29, 30, 32, 33, 34};
        filledIs(withShutAndWet(new int[] {5, 35}, wet), 3, 34, 12);
    }

    private static void leastWetIs(int w, int h, int... due) {
        Seepwork x = new Seepwork();
        for (int k = 1; k <= 4; k++) {
            Due.is("leastWet(" + w + ", " + h + ", " + k + ")", x.leastWet(w, h, k), due[k - 1]);
        }
    }

    private static void promise27LeastWet() {
        leastWetIs(1, 1, 1, 1, 1, 1);
        leastWetIs(2, 1, 1, 2, 2, 2);
        leastWetIs(3, 1, 1, 2, 3, 3);
        leastWetIs(1, 4, 1, 3, 4, 4);
        leastWetIs(2, 2, 1, 2, 4, 4);
        leastWetIs(3, 3, 1, 3, 5, 8);
        leastWetIs(3, 4, 1, 4, 7, 11);
        leastWetIs(4, 3, 1, 4, 7, 11);
        for (int w = 1; w <= 4; w++) {
            for (int h = 1; h <= 4; h++) {
                for (int k = 1; k <= 4 && w * h <= 12; k++) {
                    Due.is("leastWet(" + w + ", " + h + ", " + k + ")", new Seepwork().leastWet(w, h, k),
                            new Model().leastWet(w, h, k));
                }
            }
        }
        Seepwork x = new Seepwork();
        x.strike(36);
        Due.is("leastWet(3, 3, 2) beside SHUT ones", x.leastWet(3, 3, 2), 3);
        int[][] wrong = {{0, 1, 1}, {1, 0, 1}, {5, 1, 1}, {1, 5, 1}, {1, 1, 0}, {1, 1, 5}, {4, 4, 1},
            {Integer.MAX_VALUE, Integer.MAX_VALUE, 1}, {-1, -1, 1}};
        for (int[] three : wrong) {
            String shown = "(" + three[0] + ", " + three[1] + ", " + three[2] + ")";
            Due.outOfRange(x, "leastWet" + shown, () -> x.leastWet(three[0], three[1], three[2]));
        }
    }

    private static void promise28Grow() {
        Seepwork x = new Seepwork();
        boolean[] trees = new boolean[36];
        long draw = 0;
        int standing = 0;
        for (int i = 0; i < 40; i++) {
            draw = (25173L * draw + 13849L) % 65536L;
            int site = (int) (draw % 36L);
            standing += trees[site] ? 0 : 1;
            trees[site] = true;
            Due.is("grow(1) for the time " + i, x.grow(1), standing);
        }
        Due.is("count(1)", x.count(1), standing);
        Seepwork y = new Seepwork();
        Due.is("grow(40)", y.grow(40), standing);
        for (int site = 0; site < 36; site++) {
            Due.is("a TREE at " + site, y.lightning(site) > 0 || !trees[site], true);
            trees = withoutFire(trees, site);
        }
        shutOnesTakeDrawsToo();
        Due.is("grow(200)", x.grow(200) <= 36, true);
        for (int n : new int[] {0, -1, 201}) {
            Due.outOfRange(x, "grow(" + n + ")", () -> x.grow(n));
        }
    }

    private static void shutOnesTakeDrawsToo() {
        Seepwork x = new Seepwork();
        x.shut(25, true);
        Due.is("grow(1) at a SHUT one", x.grow(1), 0);
        Due.is("grow(1)", x.grow(1), 1);
        Due.is("lightning(34)", x.lightning(34), 1);
        x.shut(25, false);
        Due.is("count(1)", x.count(1), 0);
    }

    private static boolean[] withoutFire(boolean[] trees, int site) {
        boolean[] left = trees.clone();
        if (site < 0 || site > 35 || !left[site]) {
            return left;
        }
        left[site] = false;
        left = site % 6 > 0 ? withoutFire(left, site - 1) : left;
        left = site % 6 < 5 ? withoutFire(left, site + 1) : left;
        left = withoutFire(left, site - 6);
        return withoutFire(left, site + 6);
    }

    private static void promise29Lightning() {
        Seepwork x = new Seepwork();
        Due.is("lightning(3)", x.lightning(3), 0);
        Start.growAll(x);
        Due.is("count(1)", x.count(1), 36);
        for (int column = 0; column < 6; column++) {
            x.shut(12 + column, true);
        }
        Due.is("count(1) behind a wall", x.count(1), 30);
        Due.is("lightning(12)", x.lightning(12), 0);
        Due.is("lightning(11)", x.lightning(11), 12);
        Due.is("count(1)", x.count(1), 18);
        Due.is("lightning(11) again", x.lightning(11), 0);
        x.shut(12, false);
        Due.is("lightning(12), where none grew", x.lightning(12), 0);
        // The end of a row and the beginning of the next one are not beside one another.
        x.shut(18 + 5, true);
        x.shut(24 + 4, true);
        x.shut(30 + 5, true);
        Due.is("lightning(29)", x.lightning(29), 1);
        Due.is("lightning(30)", x.lightning(30), 14);
        Due.is("count(1)", x.count(1), 0);
        Due.noSuch(x, "lightning(-1)", () -> x.lightning(-1));
        Due.noSuch(x, "lightning(36)", () -> x.lightning(36));
    }
}
