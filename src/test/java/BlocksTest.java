/** Promises 17 to 19. */
public final class BlocksTest {
    public static void main(String[] args) {
        promise17Polynomial();
        promise18Chance();
        promise19Pivots();
        againstAllSets();
        Due.end();
    }

    private static int bondsOf(int w, int h) {
        return (w - 1) * h + w * (h - 1);
    }

    private static void polynomialIs(int w, int h, int... due) {
        Seepwork x = new Seepwork();
        Due.is("how many are due of " + w + ", " + h, due.length, bondsOf(w, h) + 1);
        for (int k = 0; k < due.length; k++) {
            Due.is("polynomial(" + w + ", " + h + ", " + k + ")", x.polynomial(w, h, k), due[k]);
        }
    }

    private static void promise17Polynomial() {
        polynomialIs(1, 1, 1);
        polynomialIs(1, 2, 1, 1);
        polynomialIs(1, 4, 1, 3, 3, 1);
        polynomialIs(2, 1, 0, 1);
        polynomialIs(4, 1, 0, 0, 0, 1);
        polynomialIs(2, 2, 0, 2, 5, 4, 1);
        Seepwork x = new Seepwork();
        // Across three columns: the three rows, and no other way by two BONDS.
        Due.is("polynomial(3, 3, 2)", x.polynomial(3, 3, 2), 3);
        Due.is("polynomial(3, 3, 12)", x.polynomial(3, 3, 12), 1);
        Due.is("polynomial(4, 2, 3)", x.polynomial(4, 2, 3), 2);
        Due.is("polynomial(2, 4, 1)", x.polynomial(2, 4, 1), 4);
        // SHUT SITES and NUMBERS are the square's, not a BLOCK's.
        x.strike(36);
        x.seed(3);
        Due.is("polynomial(3, 3, 2) beside SHUT ones", x.polynomial(3, 3, 2), 3);
        int[][] wrong = {{0, 1, 0}, {1, 0, 0}, {5, 1, 0}, {1, 5, 0}, {3, 4, 0}, {4, 3, 0}, {4, 4, 0}, {1, 1, 1},
            {1, 1, -1}, {2, 2, 5}, {3, 3, 13}, {3, 3, -1}, {Integer.MAX_VALUE, Integer.MAX_VALUE, 0},
            {Integer.MIN_VALUE, 2, 0}};
        for (int[] three : wrong) {
            String shown = "(" + three[0] + ", " + three[1] + ", " + three[2] + ")";
            Due.outOfRange(x, "polynomial" + shown, () -> x.polynomial(three[0], three[1], three[2]));
            Due.outOfRange(x, "pivots" + shown, () -> x.pivots(three[0], three[1], three[2]));
        }
    }

    private static void promise18Chance() {
        Seepwork x = new Seepwork();
        for (int a = 0; a <= 10; a++) {
            Due.is("chance(1, 1, " + a + ")", x.chance(1, 1, a), 1);
            Due.is("chance(1, 3, " + a + ")", x.chance(1, 3, a), 100);
            Due.is("chance(2, 1, " + a + ")", x.chance(2, 1, a), a);
            Due.is("chance(3, 1, " + a + ")", x.chance(3, 1, a), a * a);
            Due.is("chance(2, 2, " + a + ")", x.chance(2, 2, a), 10000 - 100L * (10 - a) * (10 - a));
        }
        Due.is("chance(3, 3, 0)", x.chance(3, 3, 0), 0);
        Due.is("chance(3, 3, 10)", x.chance(3, 3, 10), 1000000000000L);
        int[][] wrong = {{0, 1, 0}, {1, 0, 0}, {5, 1, 0}, {1, 5, 0}, {3, 4, 0}, {4, 3, 0}, {4, 4, 0}, {1, 1, 11},
            {1, 1, -1}, {3, 3, 11}};
        for (int[] three : wrong) {
            String shown = "(" + three[0] + ", " + three[1] + ", " + three[2] + ")";
            Due.outOfRange(x, "chance" + shown, () -> x.chance(three[0], three[1], three[2]));
        }
    }

    private static void promise19Pivots() {
        Seepwork x = new Seepwork();
        int[] due = {2, 4, 2, 0, 0};
        for (int k = 0; k < due.length; k++) {
            Due.is("pivots(2, 2, " + k + ")", x.pivots(2, 2, k), due[k]);
        }
        Due.is("pivots(1, 1, 0)", x.pivots(1, 1, 0), 0);
        Due.is("pivots(1, 4, 2)", x.pivots(1, 4, 2), 0);
        Due.is("pivots(4, 1, 2)", x.pivots(4, 1, 2), 3);
        Due.is("pivots(4, 1, 1)", x.pivots(4, 1, 1), 0);
        Due.is("pivots(3, 3, 1)", x.pivots(3, 3, 1), 6);
        Due.is("pivots(3, 3, 12)", x.pivots(3, 3, 12), 0);
    }

    /** All BLOCKS against colours that are spread from place to place, BOND after BOND of each set. */
    private static void againstAllSets() {
        for (int w = 1; w <= 4; w++) {
            for (int h = 1; h <= 4; h++) {
                if (bondsOf(w, h) <= 12) {
                    blockIsRight(w, h);
                }
            }
        }
    }

    private static void blockIsRight(int w, int h) {
        int[][] bonds = layBonds(w, h);
        int n = bonds.length;
        int[] spanning = new int[n + 1];
        int[] pivots = new int[n + 1];
        for (int set = 0; set < 1 << n; set++) {
            int size = Integer.bitCount(set);
            if (isSpanned(w, h, bonds, set)) {
                spanning[size]++;
                continue;
            }
            for (int bond = 0; bond < n; bond++) {
                if (isSpanned(w, h, bonds, set | 1 << bond)) {
                    pivots[size]++;
                }
            }
        }
        Seepwork x = new Seepwork();
        for (int k = 0; k <= n; k++) {
            Due.is("polynomial(" + w + ", " + h + ", " + k + ")", x.polynomial(w, h, k), spanning[k]);
            Due.is("pivots(" + w + ", " + h + ", " + k + ")", x.pivots(w, h, k), pivots[k]);
        }
        for (int a = 0; a <= 10; a++) {
            long sum = 0;
            for (int k = 0; k <= n; k++) {
                sum += spanning[k] * Math.round(Math.pow(a, k)) * Math.round(Math.pow(10 - a, n - k));
            }
            Due.is("chance(" + w + ", " + h + ", " + a + ")", x.chance(w, h, a), sum);
        }
    }

    private static int[][] layBonds(int w, int h) {
        int[][] bonds = new int[bondsOf(w, h)][];
        int count = 0;
        for (int one = 0; one < w * h; one++) {
            for (int other = one + 1; other < w * h; other++) {
                int apart = Math.abs(one / w - other / w) + Math.abs(one % w - other % w);
                if (apart == 1) {
                    bonds[count++] = new int[] {one, other};
                }
            }
        }
        return bonds;
    }

    private static boolean isSpanned(int w, int h, int[][] bonds, int set) {
        int[] colour = new int[w * h];
        for (int place = 0; place < w * h; place++) {
            colour[place] = place;
        }
        for (int bond = 0; bond < bonds.length; bond++) {
            if ((set >> bond & 1) == 1) {
                int from = colour[bonds[bond][0]];
                int to = colour[bonds[bond][1]];
                for (int place = 0; place < w * h; place++) {
                    colour[place] = colour[place] == from ? to : colour[place];
                }
            }
        }
        for (int left = 0; left < w * h; left += w) {
            for (int right = w - 1; right < w * h; right += w) {
                if (colour[left] == colour[right]) {
                    return true;
                }
            }
        }
        return false;
    }
}
