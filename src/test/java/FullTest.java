/** All promises: what is answered where there is all of a kind, or the most that can be. */
public final class FullTest {
    private static final int NONE = Seepwork.NONE;

    public static void main(String[] args) {
        eightLetters();
        allFibresBroken();
        leastAndGreatestStrengths();
        allOil();
        allOilButShutOnes();
        allWet();
        allTrees();
        allStruck();
        allCome();
        noneIsLeftToCome();
        greatestNumbers();
        greatestTimes();
        allOpen();
        allBonds();
        greatestBlocks();
        surestChance();
        allPlacesWet();
        allSeeds();
        Due.end();
    }

    private static void eightLetters() {
        Seepwork x = new Seepwork();
        for (int i = 1; i <= 8; i++) {
            Due.is("type('a') as letter " + i, x.type('a'), i);
        }
        for (int letter : new int[] {'a', 'm', 'z'}) {
            Due.badState(x, "type(" + letter + ") behind 8", () -> x.type(letter));
        }
        for (int letter : new int[] {96, 123, Integer.MIN_VALUE}) {
            Due.outOfRange(x, "type(" + letter + ") behind 8", () -> x.type(letter));
        }
        Due.is("count(4)", x.count(4), 8);
        Due.badState(x, "measure(0, 0) by 8 letters", () -> x.measure(0, 0));
        Due.is("wipe()", x.wipe(), 8);
        Due.is("count(4)", x.count(4), 0);
        Due.is("type('a') behind wipe()", x.type('a'), 1);
        // None of the 9 letters is left ahead of these.
        x.wipe();
        Start.typeName(x, "red");
        Due.is("measure(BONDS, 0)", x.measure(0, 0), 0);
        // A letter that was refused is not in the NAME: seven and one more fill it, and it is not cut off at a measure.
        Seepwork y = new Seepwork();
        Start.typeName(y, "spanspan");
        Due.badState(y, "measure(0, 0) by spanspan", () -> y.measure(0, 0));
    }

    private static void allFibresBroken() {
        Seepwork x = new Seepwork();
        for (boolean isLocal : new boolean[] {false, true}) {
            Due.is("load(1211, " + isLocal + ")", x.load(1211, isLocal), 0);
            Due.is("load(1212, " + isLocal + ")", x.load(1212, isLocal), 12);
            Due.is("load(20000, " + isLocal + ")", x.load(20000, isLocal), 12);
            // All are whole again for the next load.
            Due.is("load(1211, " + isLocal + ") again", x.load(1211, isLocal), 0);
        }
    }

    private static void leastAndGreatestStrengths() {
        for (boolean isLocal : new boolean[] {false, true}) {
            Seepwork least = new Seepwork();
            Seepwork greatest = new Seepwork();
            Seepwork mixed = new Seepwork();
            for (int fibre = 0; fibre < 12; fibre++) {
                least.fibre(fibre, 1);
                greatest.fibre(fibre, 1000);
                mixed.fibre(fibre, fibre == 11 ? 1000 : 1);
            }
            Due.is("lastStraw(" + isLocal + "), all 1", least.lastStraw(isLocal), 23);
            Due.is("load(23, " + isLocal + "), all 1", least.load(23, isLocal), 0);
            Due.is("load(24, " + isLocal + "), all 1", least.load(24, isLocal), 12);
            Due.is("lastStraw(" + isLocal + "), all 1000", greatest.lastStraw(isLocal), 12011);
            Due.is("load(12011, " + isLocal + "), all 1000", greatest.load(12011, isLocal), 0);
            Due.is("load(12012, " + isLocal + "), all 1000", greatest.load(12012, isLocal), 12);
            Due.is("load(20000, " + isLocal + "), all 1000", greatest.load(20000, isLocal), 12);
            Due.is("load(24, " + isLocal + "), all 1 but one", mixed.load(24, isLocal), 11);
        }
    }

    private static void allOil() {
        Seepwork x = new Seepwork();
        Due.is("drain(1)", x.drain(1), 36);
        Due.is("count(3)", x.count(3), 36);
        Due.is("drain(1000), as no water is left", x.drain(1000), 36);
        Due.is("drain(0)", x.drain(0), 36);
        Due.is("trapped(true)", x.trapped(true), 0);
        Due.is("trapped(false)", x.trapped(false), 0);
        // All NUMBERS are 0, so no pressure but 0 lets water back.
        Due.is("soak(1)", x.soak(1), 36);
        Due.is("soak(1000)", x.soak(1000), 36);
        x.site(35, 999);
        Due.is("soak(1000), by a NUMBER of 999", x.soak(1000), 36);
        Due.is("soak(999), by a NUMBER of 999", x.soak(999), 35);
        Due.is("drain(999), by a NUMBER of 999", x.drain(999), 35);
        Due.is("drain(1000), by a NUMBER of 999", x.drain(1000), 36);
    }

    private static void allOilButShutOnes() {
        Seepwork x = new Seepwork();
        x.shut(14, true);
        x.shut(5, true);
        Due.is("drain(1000)", x.drain(1000), 34);
        Due.is("trapped(true)", x.trapped(true), 0);
        x.shut(14, false);
        // Water at 14 is shut in by oil all around, and so none drains it.
        Due.is("trapped(false)", x.trapped(false), 1);
        Due.is("drain(1000) around trapped water", x.drain(1000), 34);
        x.shut(5, false);
        Due.is("trapped(false), as 5 is at the right", x.trapped(false), 1);
        Due.is("drain(1000) at 5", x.drain(1000), 35);
    }

    private static void allWet() {
        Seepwork x = new Seepwork();
        for (int site = 0; site < 36; site++) {
            Due.is("wet(" + site + ", true)", x.wet(site, true), false);
        }
        Due.is("count(2)", x.count(2), 36);
        for (int k = 1; k <= 4; k++) {
            Due.is("filled(" + k + ", 0)", x.filled(k, 0), 36);
            Due.is("filled(" + k + ", 1)", x.filled(k, 1), 0);
        }
        for (int site = 0; site < 36; site++) {
            Due.is("wet(" + site + ", true)", x.wet(site, true), true);
        }
        Due.is("strike(36)", x.strike(36), 36);
        Due.is("count(2) behind strike(36)", x.count(2), 0);
    }

    private static void allTrees() {
        Seepwork x = new Seepwork();
        Start.growAll(x);
        Due.is("count(1)", x.count(1), 36);
        Due.is("grow(1), where all stand", x.grow(1), 36);
        Due.is("lightning(0)", x.lightning(0), 36);
        Due.is("count(1)", x.count(1), 0);
        Due.is("lightning(0) again", x.lightning(0), 0);
        Due.is("grow(1)", x.grow(1), 1);
        Start.growAll(x);
        Due.is("count(1)", x.count(1), 36);
        Due.is("strike(36)", x.strike(36), 36);
        Due.is("count(1) behind strike(36)", x.count(1), 0);
        Due.is("lightning(0)", x.lightning(0), 0);
    }

    private static void allStruck() {
        Seepwork x = new Seepwork();
        Due.is("strike(36)", x.strike(36), 36);
        Due.is("count(0)", x.count(0), 36);
        Seepwork y = new Seepwork();
        for (int i = 1; i <= 36; i++) {
            Due.is("strike(1) for the time " + i, y.strike(1), i);
        }
        Due.is("strike(1), where all are SHUT", y.strike(1), 36);
        Due.is("strike(36), where all are SHUT", y.strike(36), 36);
        for (int site = 0; site < 36; site++) {
            Due.is("shut(" + site + ", false)", y.shut(site, false), true);
        }
        Due.is("count(0)", y.count(0), 0);
        Seepwork z = new Seepwork();
        for (int site = 0; site < 33; site++) {
            z.shut(site, true);
        }
        Due.is("strike(4), where 3 are left", z.strike(4), 36);
    }

    /** Each SITE comes just once, wherever it begins, and the 35th is the last one. */
    private static void allCome() {
        Seepwork x = new Seepwork();
        x.seed(12);
        int greatest = NONE;
        boolean[] came = new boolean[36];
        for (int n = 0; n <= 35; n++) {
            int site = x.invade(20, n);
            Due.is("invade(20, " + n + ") is a SITE that has not come", site >= 0 && site < 36 && !came[site], true);
            came[site < 0 || site > 35 ? 0 : site] = true;
            int number = x.invaded(20, n);
            Due.is("invaded(20, " + n + ") does not sink", number >= greatest, true);
            greatest = number;
        }
        Due.outOfRange(x, "invade(20, 36)", () -> x.invade(20, 36));
        Due.outOfRange(x, "invaded(20, 36)", () -> x.invaded(20, 36));
        Due.is("ball(20, 60000)", x.ball(20, 60000), 36);
    }

    private static void noneIsLeftToCome() {
        for (int shut = 0; shut <= 34; shut += 2) {
            Seepwork x = new Seepwork();
            for (int site = 36 - shut; site < 36; site++) {
                x.shut(site, true);
            }
            int last = 35 - shut;
            Due.is("invade(0, " + last + ") is one", x.invade(0, last) != NONE, true);
            Due.is("invaded(0, " + last + ")", x.invaded(0, last), 0);
            for (int n = last + 1; n <= 35; n++) {
                Due.is("invade(0, " + n + ")", x.invade(0, n), NONE);
                Due.is("invaded(0, " + n + ")", x.invaded(0, n), NONE);
            }
        }
    }

    /** By NUMBERS of 999 everything opens at 1000, and nothing below. */
    private static void greatestNumbers() {
        Seepwork x = withBonds(999);
        for (int site = 0; site < 36; site++) {
            x.site(site, 999);
        }
        for (int kind = 0; kind <= 2; kind++) {
            for (boolean isDown : new boolean[] {false, true}) {
                Due.is("edge(" + kind + ", " + isDown + ")", x.edge(kind, isDown), 1000);
                Due.is("edgeAnew(" + kind + ", " + isDown + ")", x.edgeAnew(kind, isDown), 1000);
                Due.is("spans(" + kind + ", 999, " + isDown + ")", x.spans(kind, 999, isDown), false);
                Due.is("spans(" + kind + ", 1000, " + isDown + ")", x.spans(kind, 1000, isDown), true);
            }
            for (int bond = 0; bond < 60; bond++) {
                Due.is("numberOf(" + kind + ", " + bond + ")", x.numberOf(kind, bond), 999);
            }
        }
        Due.is("invaded(0, 1)", x.invaded(0, 1), 999);
        Due.is("drain(999)", x.drain(999), 0);
        Due.is("drain(1000)", x.drain(1000), 36);
    }

    private static Seepwork withBonds(int number) {
        Seepwork x = new Seepwork();
        for (int bond = 0; bond < 60; bond++) {
            x.bond(bond, number);
        }
        return x;
    }

    /** By 999 each BOND takes 1000. */
    private static void greatestTimes() {
        Seepwork x = withBonds(999);
        Due.is("time(0, 35)", x.time(0, 35), 10000);
        Due.is("time(35, 0)", x.time(35, 0), 10000);
        Due.is("ball(0, 999)", x.ball(0, 999), 1);
        Due.is("ball(0, 1000)", x.ball(0, 1000), 3);
        Due.is("ball(0, 9999)", x.ball(0, 9999), 35);
        Due.is("ball(0, 10000)", x.ball(0, 10000), 36);
        Due.is("ball(0, 60000)", x.ball(0, 60000), 36);
        Seepwork snake = withBonds(999);
        // Walls of SHUT ones in the columns 1, 3 and 5 but for one end each: 0 to 30, to 32, up to 2, to 4, down to 34.
        for (int row = 0; row < 6; row++) {
            snake.shut(6 * row + 1, row != 5);
            snake.shut(6 * row + 3, row != 0);
            snake.shut(6 * row + 5, row != 5);
        }
        Due.is("time(0, 35) along a snake", snake.time(0, 35), 20000);
        Due.is("ball(0, 19999) along a snake", snake.ball(0, 19999), 20);
        Due.is("ball(0, 20000) along a snake", snake.ball(0, 20000), 21);
        Due.is("shortest(BONDS, 1000) along a snake", snake.shortest(0, 1000), 2 + 5 + 2 + 5 + 1);
        Due.is("invade(0, 20) along a snake", snake.invade(0, 20), 35);
        Due.is("invade(0, 21) along a snake", snake.invade(0, 21), NONE);
        snake.wet(0, true);
        Due.is("filled(1, 0) along a snake", snake.filled(1, 0), 21);
        Due.is("filled(1, 1) along a snake", snake.filled(1, 1), 20);
    }

    private static void allOpen() {
        Seepwork x = new Seepwork();
        for (int kind = 0; kind <= 2; kind++) {
            for (int p : new int[] {1, 1000}) {
                String shown = "(" + kind + ", " + p + ", ..)";
                Due.is("sizes" + shown + " many", x.sizes(kind, p, 0), 1);
                Due.is("sizes" + shown + " greatest", x.sizes(kind, p, 1), 36);
                Due.is("sizes" + shown + " squares", x.sizes(kind, p, 2), 1296);
                Due.is("ways" + shown, x.ways(kind, p), 6);
                Due.is("cut" + shown, x.cut(kind, p), 6);
                Due.is("red" + shown, x.red(kind, p), 0);
                Due.is("shortest" + shown, x.shortest(kind, p), 5);
                Due.is("cluster" + shown, x.cluster(kind, p, 35), 0);
            }
            Due.is("edge(" + kind + ", false)", x.edge(kind, false), 1);
            Due.is("edgeAnew(" + kind + ", true)", x.edgeAnew(kind, true), 1);
        }
    }

    /** All BONDS of a BLOCK make one set, which spans it. */
    private static void allBonds() {
        Seepwork x = new Seepwork();
        for (int w = 1; w <= 4; w++) {
            for (int h = 1; h <= 4; h++) {
                int all = (w - 1) * h + w * (h - 1);
                if (all <= 12) {
                    String shown = "(" + w + ", " + h + ", " + all + ")";
                    Due.is("polynomial" + shown, x.polynomial(w, h, all), 1);
                    Due.is("pivots" + shown, x.pivots(w, h, all), 0);
                }
            }
        }
    }

    /** 12 BONDS, and 12 places, are enough for a BLOCK; by a BOND more, or a place more, it is refused. */
    private static void greatestBlocks() {
        Seepwork x = new Seepwork();
        Due.is("polynomial(3, 3, 12)", x.polynomial(3, 3, 12), 1);
        Due.is("polynomial(4, 2, 10)", x.polynomial(4, 2, 10), 1);
        Due.is("polynomial(2, 4, 10)", x.polynomial(2, 4, 10), 1);
        Due.is("leastWet(3, 4, 4)", x.leastWet(3, 4, 4), 11);
        Due.is("leastWet(4, 3, 4)", x.leastWet(4, 3, 4), 11);
        for (int[] size : new int[][] {{3, 4}, {4, 3}, {4, 4}}) {
            int w = size[0];
            int h = size[1];
            String shown = "(" + w + ", " + h + ", 0)";
            Due.outOfRange(x, "polynomial" + shown, () -> x.polynomial(w, h, 0));
            Due.outOfRange(x, "chance" + shown, () -> x.chance(w, h, 0));
            Due.outOfRange(x, "pivots" + shown, () -> x.pivots(w, h, 0));
        }
        Due.outOfRange(x, "leastWet(4, 4, 1)", () -> x.leastWet(4, 4, 1));
    }

    private static void surestChance() {
        Seepwork x = new Seepwork();
        Due.is("chance(1, 1, 10)", x.chance(1, 1, 10), 1L);
        Due.is("chance(2, 1, 10)", x.chance(2, 1, 10), 10L);
        Due.is("chance(1, 4, 10)", x.chance(1, 4, 10), 1000L);
        Due.is("chance(4, 2, 10)", x.chance(4, 2, 10), 10000000000L);
        Due.is("chance(2, 4, 10)", x.chance(2, 4, 10), 10000000000L);
        Due.is("chance(3, 3, 10)", x.chance(3, 3, 10), 1000000000000L);
    }

    /** By a need of 4 only places that have four beside them can be left out, and no two that are beside one another. */
    private static void allPlacesWet() {
        Seepwork x = new Seepwork();
        for (int w = 1; w <= 2; w++) {
            for (int h = 1; h <= 4; h++) {
                Due.is("leastWet(" + w + ", " + h + ", 4)", x.leastWet(w, h, 4), w * h);
                Due.is("leastWet(" + h + ", " + w + ", 4)", x.leastWet(h, w, 4), w * h);
            }
        }
        Due.is("leastWet(3, 3, 4)", x.leastWet(3, 3, 4), 8);
        Due.is("leastWet(3, 3, 1)", x.leastWet(3, 3, 1), 1);
    }

    private static void allSeeds() {
        Seepwork x = new Seepwork();
        for (int kind = 0; kind <= 2; kind++) {
            for (int n : new int[] {1, 30}) {
                Due.is("estimate(" + kind + ", 1000, " + n + ")", x.estimate(kind, 1000, n), n);
                Due.is("estimate(" + kind + ", 0, " + n + ")", x.estimate(kind, 0, n), 0);
            }
        }
        // A wall bars all of them.
        for (int row = 0; row < 6; row++) {
            x.shut(6 * row + 2, true);
        }
        Due.is("estimate(BONDS, 1000, 30) at a wall", x.estimate(0, 1000, 30), 0);
        x.shut(2, false);
        Due.is("estimate(BONDS, 1000, 30) through a gap", x.estimate(0, 1000, 30), 30);
    }
}
