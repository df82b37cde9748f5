/** Promises 1 to 16, sentence by sentence. */
public final class SentencesTo16Test {
    private static final int NONE = Seepwork.NONE;
    private static final int BONDS = Seepwork.BONDS;
    private static final int SITES = Seepwork.SITES;
    private static final int BOTH = Seepwork.BOTH;

    private static final String KIND = "@param kind BONDS to BOTH";
    private static final String THRESHOLD = "@param p a threshold";
    private static final String NO_SITE = "@throws IndexOutOfBoundsException if there is no such SITE";
    private static final String NO_BOND = "@throws IndexOutOfBoundsException if there is no such BOND";
    private static final String BAD_NUMBER = "@throws IllegalArgumentException if number is out of range";
    private static final String BAD_KIND = "@throws IllegalArgumentException if kind is out of range";
    private static final String BAD_KIND_OR_P = "@throws IllegalArgumentException if kind or p is out of range";
    private static final String BAD_ARGUMENT = "@throws IllegalArgumentException if an argument is out of range";
    private static final String BAD_N = "@throws IllegalArgumentException if n is out of range";

    private static final Sentences DOCUMENT = new Sentences();

    public static void main(String[] args) {
        newObject();
        seed();
        bond();
        site();
        numberOf();
        shut();
        strike();
        cluster();
        sizes();
        spans();
        edge();
        edgeAnew();
        ways();
        cut();
        red();
        shortest();
        DOCUMENT.end(1, 16);
    }

    private static void newObject() {
        DOCUMENT.of(1, "All NUMBERS 0", () -> {
            for (int bond = 0; bond < 60; bond++) {
                Due.is("numberOf(BOTH, " + bond + ")", new Seepwork().numberOf(BOTH, bond), 0);
            }
            Due.is("edge(BOTH, true)", new Seepwork().edge(BOTH, true), 1);
        });
        DOCUMENT.of(1, "nothing SHUT or WET", () -> {
            Due.is("count(0)", new Seepwork().count(0), 0);
            Due.is("count(2)", new Seepwork().count(2), 0);
            Due.is("filled(1, 0)", new Seepwork().filled(1, 0), 0);
        });
        DOCUMENT.of(1, "no TREES", () -> Due.is("count(1)", new Seepwork().count(1), 0));
        DOCUMENT.of(1, "water everywhere", () -> {
            Due.is("count(3)", new Seepwork().count(3), 0);
            Due.is("trapped(true)", new Seepwork().trapped(true), 0);
        });
        DOCUMENT.of(1, "All NUMBERS 0, nothing SHUT or WET, no TREES, water everywhere.", () -> {
            // Another object's changes do not show in it.
            String before = Probe.of(new Seepwork());
            Start.MIXED.make();
            Due.isText("the state", Probe.of(new Seepwork()), before);
        });
    }

    private static void seed() {
        DOCUMENT.of(2, "Draws all NUMBERS.", () -> {
            Seepwork x = new Seepwork();
            x.seed(65535);
            Due.is("bond(0, 0), the first one", x.bond(0, 0), 212);
            long z = 65535;
            for (int i = 0; i < 96; i++) {
                z = (25173L * z + 13849L) % 65536L;
            }
            Due.is("site(35, 0), the last one", x.site(35, 0), z % 1000);
        });
        DOCUMENT.range(2, "@param z a seed, 0 to 65535", "@throws IllegalArgumentException if it is out of range", 0, 65535,
                (x, z) -> x.seed(z));
    }

    private static void bond() {
        DOCUMENT.of(3, "Tells a NUMBER.", () -> {
            Seepwork x = new Seepwork();
            x.bond(59, 999);
            Due.is("numberOf(BONDS, 59)", x.numberOf(BONDS, 59), 999);
            Due.is("numberOf(BONDS, 58)", x.numberOf(BONDS, 58), 0);
            Due.is("site(35, 0)", x.site(35, 0), 0);
        });
        DOCUMENT.index(3, "@param bond a BOND", NO_BOND, 60, (x, bond) -> x.bond(bond, 1));
        DOCUMENT.range(3, "@param number 0 to 999", BAD_NUMBER, 0, 999, (x, number) -> x.bond(59, number));
        DOCUMENT.of(3, "@return what it was", () -> {
            Seepwork x = new Seepwork();
            Due.is("bond(0, 999)", x.bond(0, 999), 0);
            Due.is("bond(0, 0)", x.bond(0, 0), 999);
            Due.is("bond(0, 0) again", x.bond(0, 0), 0);
            Due.outOfRange(x, "bond(0, 1000)", () -> x.bond(0, 1000));
            Due.is("bond(0, 5) behind a refused one", x.bond(0, 5), 0);
        });
    }

    private static void site() {
        DOCUMENT.of(4, "Tells a NUMBER.", () -> {
            Seepwork x = new Seepwork();
            x.site(35, 999);
            // 29 joins 34 and 35, and 59 joins 29 and 35.
            Due.is("numberOf(SITES, 29)", x.numberOf(SITES, 29), 999);
            Due.is("numberOf(SITES, 59)", x.numberOf(SITES, 59), 999);
            Due.is("numberOf(BONDS, 59)", x.numberOf(BONDS, 59), 0);
        });
        DOCUMENT.index(4, "@param site a SITE", NO_SITE, 36, (x, site) -> x.site(site, 1));
        DOCUMENT.range(4, "@param number 0 to 999", BAD_NUMBER, 0, 999, (x, number) -> x.site(34, number));
        DOCUMENT.of(4, "@return what it was", () -> {
            Seepwork x = new Seepwork();
            Due.is("site(0, 999)", x.site(0, 999), 0);
            Due.is("site(0, 0)", x.site(0, 0), 999);
            Due.is("site(0, 0) again", x.site(0, 0), 0);
            Due.outOfRange(x, "site(0, -1)", () -> x.site(0, -1));
            Due.is("site(0, 5) behind a refused one", x.site(0, 5), 0);
        });
    }

    private static void numberOf() {
        DOCUMENT.of(5, "Returns the least number that is enough for a threshold above it to open a BOND",
                SentencesTo16Test::numbersOpenTheirBonds);
        DOCUMENT.of(5, "if nothing is SHUT", () -> {
            Seepwork x = new Seepwork();
            x.bond(0, 700);
            x.shut(0, true);
            x.shut(1, true);
            Due.is("numberOf(BONDS, 0)", x.numberOf(BONDS, 0), 700);
            Due.is("numberOf(BOTH, 0)", x.numberOf(BOTH, 0), 700);
        });
        DOCUMENT.range(5, KIND, BAD_KIND, 0, 2, (x, kind) -> x.numberOf(kind, 59));
        DOCUMENT.index(5, "@param bond a BOND", NO_BOND, 60, (x, bond) -> x.numberOf(BOTH, bond));
        DOCUMENT.of(5, "@return by BONDS its NUMBER, by SITES the greater one of those of its SITES, by BOTH the greatest of "
                + "these three", () -> {
            // 0 joins 0 and 1; each of the three in turn is the greatest.
            int[][] numbers = {{3, 2, 1}, {2, 3, 1}, {1, 2, 3}, {3, 3, 3}, {999, 0, 0}, {0, 0, 999}};
            for (int[] three : numbers) {
                Seepwork x = new Seepwork();
                x.bond(0, three[0]);
                x.site(0, three[1]);
                x.site(1, three[2]);
                int ofSites = Math.max(three[1], three[2]);
                Due.is("numberOf(BONDS, 0)", x.numberOf(BONDS, 0), three[0]);
                Due.is("numberOf(SITES, 0)", x.numberOf(SITES, 0), ofSites);
                Due.is("numberOf(BOTH, 0)", x.numberOf(BOTH, 0), Math.max(three[0], ofSites));
            }
        });
    }

    /** Where its SITES alone are not SHUT, a CLUSTER of two begins just above the number. */
    private static void numbersOpenTheirBonds() {
        for (int bond = 0; bond < 60; bond++) {
            int low = bond < 30 ? 6 * (bond / 5) + bond % 5 : bond - 30;
            int high = bond < 30 ? low + 1 : low + 6;
            Seepwork x = new Seepwork();
            x.seed(bond);
            x.strike(36);
            x.shut(low, false);
            x.shut(high, false);
            for (int kind = 0; kind <= 2; kind++) {
                int number = x.numberOf(kind, bond);
                Due.is("sizes() at the number of " + bond, x.sizes(kind, number, 1) < 2, true);
                Due.is("sizes() just above the number of " + bond, x.sizes(kind, number + 1, 1), 2);
            }
        }
    }

    private static void shut() {
        DOCUMENT.of(6, "Makes a SITE SHUT, or not SHUT any more.", () -> {
            Seepwork x = new Seepwork();
            x.shut(35, true);
            Due.is("time(35, 35), where it is SHUT", x.time(35, 35), NONE);
            Due.is("count(0)", x.count(0), 1);
            x.shut(35, false);
            Due.is("time(35, 35), where it is not", x.time(35, 35), 0);
            Due.is("count(0)", x.count(0), 0);
        });
        DOCUMENT.index(6, "@param site a SITE", NO_SITE, 36, (x, site) -> x.shut(site, true));
        DOCUMENT.index(6, "@param site a SITE", NO_SITE, 36, (x, site) -> x.shut(site, false));
        DOCUMENT.of(6, "@param isShut which of both", () -> {
            // One that is SHUT stays so, and one that is not keeps what it has.
            Seepwork x = Start.FULL.make();
            x.shut(0, false);
            Due.isText("the state behind shut(0, false)", Probe.of(x), Probe.of(Start.FULL.make()));
            Seepwork y = Start.ALL_SHUT.make();
            y.shut(0, true);
            Due.isText("the state behind shut(0, true)", Probe.of(y), Probe.of(Start.ALL_SHUT.make()));
            // NUMBERS stay, and so does all at other SITES.
            Seepwork z = Start.MIXED.make();
            int before = z.site(14, 777);
            z.shut(14, true);
            Due.is("site(14, ..), where it is SHUT", z.site(14, 778), 777);
            z.shut(14, false);
            Due.is("site(14, ..), where it is not", z.site(14, before), 778);
            z.wet(14, true);
            Due.isText("the state behind all that", Probe.of(z), Probe.of(Start.MIXED.make()));
        });
        DOCUMENT.of(6, "@return whether it was SHUT", () -> {
            Seepwork x = new Seepwork();
            Due.is("shut(0, false), where it is not", x.shut(0, false), false);
            Due.is("shut(0, true), where it is not", x.shut(0, true), false);
            Due.is("shut(0, true), where it is", x.shut(0, true), true);
            Due.is("shut(0, false), where it is", x.shut(0, false), true);
            Due.is("shut(0, false), where it is not any more", x.shut(0, false), false);
        });
    }

    /** All is SHUT but these SITES. */
    private static Seepwork withOnly(int... sites) {
        Seepwork x = new Seepwork();
        x.strike(36);
        for (int site : sites) {
            x.shut(site, false);
        }
        return x;
    }

    private static void struckAre(Seepwork x, int... due) {
        for (int site : due) {
            x.strike(1);
            Due.is("shut(" + site + ", true) behind a strike", x.shut(site, true), true);
        }
    }

    private static void strike() {
        DOCUMENT.of(7, "Attacks by rank: n times", () -> {
            Seepwork once = new Seepwork();
            once.strike(5);
            Seepwork often = new Seepwork();
            for (int i = 0; i < 5; i++) {
                often.strike(1);
            }
            Due.isText("the state behind strike(5)", Probe.of(once), Probe.of(often));
        });
        DOCUMENT.of(7, "as long as there is one", () -> {
            Seepwork x = new Seepwork();
            for (int site = 0; site < 35; site++) {
                x.shut(site, true);
            }
            Due.is("strike(2), where one is left", x.strike(2), 36);
            Due.is("strike(36), where none is left", x.strike(36), 36);
            Due.is("strike(1), where none is left", x.strike(1), 36);
        });
        DOCUMENT.of(7, "the SITE that is not SHUT with the most that are not SHUT beside it", () -> {
            // 21 has four beside it, and then none has more than 0 and 1 have.
            struckAre(withOnly(0, 1, 15, 20, 21, 22, 27), 21, 0);
        });
        DOCUMENT.of(7, "the most that are not SHUT beside it", () -> {
            // Two beside 29, above and below it, are more than one to the right of 0, or to the left of 1.
            struckAre(withOnly(0, 1, 23, 29, 35), 29, 0);
            // Two beside 34, to the left and the right of it, are more than one below 0, or above 6.
            struckAre(withOnly(0, 6, 33, 34, 35), 34, 0);
        });
        DOCUMENT.of(7, "of several the lowest", () -> {
            // All within the border have four; behind 7 those beside it have three, so 9 is next, then 14.
            struckAre(new Seepwork(), 7, 9, 14, 16, 19, 21, 26, 28);
        });
        DOCUMENT.of(7, "becomes SHUT", () -> {
            Seepwork x = Start.FULL.make();
            x.strike(1);
            Due.is("count(1)", x.count(1), 35);
            Due.is("count(2)", x.count(2), 35);
            Due.is("count(3)", x.count(3), 35);
            Due.is("shut(7, false)", x.shut(7, false), true);
            Due.is("count(3), open again", x.count(3), 35);
        });
        DOCUMENT.range(7, "@param n 0 to 36", BAD_N, 0, 36, (x, n) -> x.strike(n));
        DOCUMENT.of(7, "@return how many are SHUT then", () -> {
            Seepwork x = new Seepwork();
            Due.is("strike(0)", x.strike(0), 0);
            x.shut(35, true);
            Due.is("strike(0), where one is SHUT", x.strike(0), 1);
            Due.is("strike(1), where one is SHUT", x.strike(1), 2);
            Due.is("strike(34)", x.strike(34), 36);
            Due.is("strike(0), where all are SHUT", x.strike(0), 36);
        });
    }

    /** The top row is joined by 100, the SITE 2 opens by 500, and 1 to 7 is joined by 300. */
    private static Seepwork withTopRow() {
        Seepwork x = new Seepwork();
        for (int bond = 0; bond < 60; bond++) {
            x.bond(bond, bond < 5 ? 100 : 900);
        }
        x.bond(31, 300);
        x.site(2, 500);
        return x;
    }

    private static void cluster() {
        DOCUMENT.of(8, "Returns the lowest SITE of a CLUSTER.", () -> {
            Seepwork x = withTopRow();
            Due.is("cluster(BONDS, 101, 5)", x.cluster(BONDS, 101, 5), 0);
            Due.is("cluster(BONDS, 100, 5)", x.cluster(BONDS, 100, 5), 5);
            Due.is("cluster(BONDS, 301, 7)", x.cluster(BONDS, 301, 7), 0);
            Due.is("cluster(BONDS, 300, 7)", x.cluster(BONDS, 300, 7), 7);
            Due.is("cluster(BOTH, 500, 5)", x.cluster(BOTH, 500, 5), 3);
        });
        DOCUMENT.range(8, KIND, BAD_KIND_OR_P, 0, 2, (x, kind) -> x.cluster(kind, 5, 0));
        DOCUMENT.range(8, THRESHOLD, BAD_KIND_OR_P, 0, 1000, (x, p) -> x.cluster(BOTH, p, 0));
        DOCUMENT.index(8, "@param site a SITE of it", NO_SITE, 36, (x, site) -> x.cluster(BOTH, 5, site));
        DOCUMENT.of(8, "@return the lowest one; NONE if the SITE is not OPEN", () -> {
            Seepwork x = withTopRow();
            Due.is("cluster(BOTH, 500, 2)", x.cluster(BOTH, 500, 2), NONE);
            Due.is("cluster(BOTH, 501, 2)", x.cluster(BOTH, 501, 2), 0);
            Due.is("cluster(BONDS, 0, 2)", x.cluster(BONDS, 0, 2), 2);
            x.shut(2, true);
            Due.is("cluster(BONDS, 1000, 2), where it is SHUT", x.cluster(BONDS, 1000, 2), NONE);
        });
    }

    private static void sizes() {
        DOCUMENT.of(9, "Tells of all CLUSTERS.", () -> {
            Seepwork x = withTopRow();
            int[] due = {30, 7, 7 * 7 + 29};
            for (int what = 0; what <= 2; what++) {
                Due.is("sizes(BONDS, 301, " + what + ")", x.sizes(BONDS, 301, what), due[what]);
            }
        });
        DOCUMENT.range(9, KIND, BAD_ARGUMENT, 0, 2, (x, kind) -> x.sizes(kind, 5, 0));
        DOCUMENT.range(9, THRESHOLD, BAD_ARGUMENT, 0, 1000, (x, p) -> x.sizes(BOTH, p, 0));
        DOCUMENT.range(9, "@param what 0 how many there are", BAD_ARGUMENT, 0, 2, (x, what) -> x.sizes(BOTH, 5, what));
        DOCUMENT.of(9, "1 how many SITES the greatest one has, 0 without one", () -> {
            Seepwork x = new Seepwork();
            Due.is("sizes(SITES, 1, 1)", x.sizes(SITES, 1, 1), 36);
            Due.is("sizes(BONDS, 0, 1)", x.sizes(BONDS, 0, 1), 1);
            Due.is("sizes(SITES, 0, 1)", x.sizes(SITES, 0, 1), 0);
            x.strike(36);
            Due.is("sizes(BONDS, 1000, 1), where all are SHUT", x.sizes(BONDS, 1000, 1), 0);
        });
        DOCUMENT.of(9, "2 the sum of the squares of all their numbers of SITES", () -> {
            Seepwork x = new Seepwork();
            Due.is("sizes(SITES, 1, 2)", x.sizes(SITES, 1, 2), 1296);
            Due.is("sizes(BONDS, 0, 2)", x.sizes(BONDS, 0, 2), 36);
            Due.is("sizes(SITES, 0, 2)", x.sizes(SITES, 0, 2), 0);
        });
        DOCUMENT.of(9, "@return as told", () -> {
            Seepwork x = new Seepwork();
            Due.is("sizes(SITES, 1, 0)", x.sizes(SITES, 1, 0), 1);
            Due.is("sizes(BONDS, 0, 0)", x.sizes(BONDS, 0, 0), 36);
            Due.is("sizes(SITES, 0, 0)", x.sizes(SITES, 0, 0), 0);
        });
    }

    private static void spans() {
        DOCUMENT.of(10, "Tells whether there is a span.", () -> {
            Due.is("spans(BONDS, 100, false)", withTopRow().spans(BONDS, 100, false), false);
            Due.is("spans(BONDS, 101, false)", withTopRow().spans(BONDS, 101, false), true);
            Due.is("spans(BOTH, 500, false)", withTopRow().spans(BOTH, 500, false), false);
            Due.is("spans(BOTH, 501, false)", withTopRow().spans(BOTH, 501, false), true);
        });
        DOCUMENT.range(10, KIND, BAD_KIND_OR_P, 0, 2, (x, kind) -> x.spans(kind, 5, true));
        DOCUMENT.range(10, THRESHOLD, BAD_KIND_OR_P, 0, 1000, (x, p) -> x.spans(BOTH, p, false));
        DOCUMENT.of(10, "@param isDown whether down, or across", () -> {
            Due.is("spans(BONDS, 900, true)", withTopRow().spans(BONDS, 900, true), false);
            Due.is("spans(BONDS, 901, true)", withTopRow().spans(BONDS, 901, true), true);
            Due.is("spans(BONDS, 900, false)", withTopRow().spans(BONDS, 900, false), true);
        });
        DOCUMENT.of(10, "@return whether there is one", () -> {
            for (int kind = 0; kind <= 2; kind++) {
                Due.is("spans(" + kind + ", 0, false)", new Seepwork().spans(kind, 0, false), false);
                Due.is("spans(" + kind + ", 0, true)", new Seepwork().spans(kind, 0, true), false);
                Due.is("spans(" + kind + ", 1, false)", new Seepwork().spans(kind, 1, false), true);
                Due.is("spans(" + kind + ", 1, true)", new Seepwork().spans(kind, 1, true), true);
            }
        });
    }

    private interface Edge {
        int of(Seepwork x, int kind, boolean isDown);
    }

    private static void edge() {
        DOCUMENT.of(11, "Returns the EDGE, found by opening BOND after BOND.", () -> edgesAre(Seepwork::edge));
        DOCUMENT.range(11, KIND, BAD_KIND, 0, 2, (x, kind) -> x.edge(kind, true));
        DOCUMENT.of(11, "@param isDown whether down, or across", () -> edgesGoBothWays(Seepwork::edge));
        DOCUMENT.of(11, "@return the threshold; NONE if there is no span at 1000 either", () -> edgesEnd(Seepwork::edge));
    }

    private static void edgeAnew() {
        DOCUMENT.of(12, "Returns the EDGE, found by the best way.", () -> edgesAre(Seepwork::edgeAnew));
        DOCUMENT.range(12, KIND, BAD_KIND, 0, 2, (x, kind) -> x.edgeAnew(kind, true));
        DOCUMENT.of(12, "@param isDown whether down, or across", () -> edgesGoBothWays(Seepwork::edgeAnew));
        DOCUMENT.of(12, "@return the threshold; NONE as told", () -> edgesEnd(Seepwork::edgeAnew));
    }

    private static void edgesAre(Edge edge) {
        Seepwork x = withTopRow();
        Due.is("by BONDS", edge.of(x, BONDS, false), 101);
        Due.is("by SITES", edge.of(x, SITES, false), 1);
        Due.is("by BOTH", edge.of(x, BOTH, false), 501);
        for (int seed = 0; seed < 30; seed++) {
            Seepwork y = new Seepwork();
            y.seed(seed);
            int found = edge.of(y, seed % 3, false);
            Due.is("spans() at the EDGE", y.spans(seed % 3, found, false), true);
            Due.is("spans() below the EDGE", y.spans(seed % 3, found - 1, false), false);
        }
    }

    private static void edgesGoBothWays(Edge edge) {
        Due.is("down by BONDS", edge.of(withTopRow(), BONDS, true), 901);
        Due.is("across by BONDS", edge.of(withTopRow(), BONDS, false), 101);
    }

    private static void edgesEnd(Edge edge) {
        Seepwork most = new Seepwork();
        for (int bond = 0; bond < 60; bond++) {
            most.bond(bond, 999);
        }
        Seepwork barred = new Seepwork();
        for (int row = 0; row < 6; row++) {
            barred.shut(6 * row + 2, true);
        }
        for (int kind = 0; kind <= 2; kind++) {
            Due.is("of NUMBERS 0", edge.of(new Seepwork(), kind, false), 1);
            Due.is("of BONDS of 999", edge.of(most, kind, false), kind == SITES ? 1 : 1000);
            Due.is("across a wall", edge.of(barred, kind, false), NONE);
            Due.is("along a wall", edge.of(barred, kind, true), 1);
            Due.is("where all are SHUT", edge.of(Start.ALL_SHUT.make(), kind, true), NONE);
        }
    }

    /** All is SHUT but these rows. */
    private static Seepwork withRows(int... rows) {
        Seepwork x = new Seepwork();
        x.strike(36);
        for (int row : rows) {
            for (int column = 0; column < 6; column++) {
                x.shut(6 * row + column, false);
            }
        }
        return x;
    }

    private static void ways() {
        DOCUMENT.of(13, "Returns how many ways from the left column to the right one there are at most, no two of which share "
                + "a BOND", () -> {
            for (int kind = 0; kind <= 2; kind++) {
                Due.is("ways() by one row", withRows(3).ways(kind, 1), 1);
                Due.is("ways() by two rows", withRows(0, 5).ways(kind, 1), 2);
                Due.is("ways() by all rows", new Seepwork().ways(kind, 1), 6);
            }
            // Two rows with one BOND of one of them missing: the one that is left holds both up.
            Seepwork x = withRows(2, 3);
            x.bond(12, 900);
            Due.is("ways() through one BOND", x.ways(BONDS, 900), 1);
            Due.is("ways() through two", x.ways(BONDS, 901), 2);
        });
        DOCUMENT.of(13, "they may share SITES", () -> {
            // Ways by the rows 2 and 3 cross at 15: one from 14 down to 21, one from 9 on to 16.
            Seepwork x = withOnly(6, 7, 8, 9, 12, 13, 14, 15, 16, 17, 21, 22, 23);
            for (int bond = 0; bond < 60; bond++) {
                x.bond(bond, 900);
            }
            for (int bond : new int[] {5, 6, 7, 39, 13, 14, 10, 11, 12, 45, 18, 19}) {
                x.bond(bond, 0);
            }
            Due.is("ways() that share 15", x.ways(BONDS, 1), 2);
        });
        DOCUMENT.range(13, KIND, BAD_ARGUMENT, 0, 2, (x, kind) -> x.ways(kind, 5));
        DOCUMENT.range(13, THRESHOLD, BAD_ARGUMENT, 0, 1000, (x, p) -> x.ways(BOTH, p));
        DOCUMENT.of(13, "@return how many", () -> {
            Due.is("ways(BONDS, 0)", new Seepwork().ways(BONDS, 0), 0);
            Due.is("ways(SITES, 0)", new Seepwork().ways(SITES, 0), 0);
            Due.is("ways(BONDS, 1000), where all are SHUT", Start.ALL_SHUT.make().ways(BONDS, 1000), 0);
        });
    }

    /** These BONDS have the NUMBER 0, and all others 900. */
    private static Seepwork withBonds(int... bonds) {
        Seepwork x = new Seepwork();
        for (int bond = 0; bond < 60; bond++) {
            x.bond(bond, 900);
        }
        for (int bond : bonds) {
            x.bond(bond, 0);
        }
        return x;
    }

    private static void cut() {
        DOCUMENT.of(14, "Returns how many OPEN BONDS have to be lost at least, so that there is no span across.", () -> {
            for (int kind = 0; kind <= 2; kind++) {
                Due.is("cut() of one row", withRows(3).cut(kind, 1), 1);
                Due.is("cut() of two rows", withRows(0, 5).cut(kind, 1), 2);
                Due.is("cut() of all rows", new Seepwork().cut(kind, 1), 6);
            }
            Seepwork x = withRows(2, 3);
            x.bond(12, 900);
            Due.is("cut() through one BOND", x.cut(BONDS, 900), 1);
            Due.is("cut() through two", x.cut(BONDS, 901), 2);
            // Two ways from the left column meet at 13, and all go up from there to 7.
            Due.is("cut() where it leads up", withOnly(7, 8, 9, 10, 11, 12, 13, 18, 19).cut(BONDS, 1), 1);
            // Two meet at 14, from 20 and from 15, and all go to the left from there to 13, then up to 7.
            Seepwork back = withBonds(15, 16, 44, 20, 21, 22, 51, 45, 12, 11, 37, 6, 7, 8, 9);
            Due.is("cut() where it leads back", back.cut(BONDS, 1), 1);
            for (int seed = 0; seed < 40; seed++) {
                Seepwork drawn = new Seepwork();
                drawn.seed(seed);
                Due.is("cut() is as many as ways()", drawn.cut(BONDS, 700), drawn.ways(BONDS, 700));
            }
        });
        DOCUMENT.range(14, KIND, BAD_ARGUMENT, 0, 2, (x, kind) -> x.cut(kind, 5));
        DOCUMENT.range(14, THRESHOLD, BAD_ARGUMENT, 0, 1000, (x, p) -> x.cut(BOTH, p));
        DOCUMENT.of(14, "@return how many; 0 if there is none now", () -> {
            Due.is("cut(BONDS, 0)", new Seepwork().cut(BONDS, 0), 0);
            Due.is("cut(SITES, 0)", new Seepwork().cut(SITES, 0), 0);
            Due.is("cut(BONDS, 100)", withTopRow().cut(BONDS, 100), 0);
            Due.is("cut(BONDS, 101)", withTopRow().cut(BONDS, 101), 1);
        });
    }

    private static void red() {
        DOCUMENT.of(15, "Counts the OPEN BONDS whose loss alone ends the span across.", () -> {
            for (int kind = 0; kind <= 2; kind++) {
                Due.is("red() of one row", withRows(3).red(kind, 1), 5);
                Due.is("red() of two rows", withRows(3, 5).red(kind, 1), 0);
            }
            // The row 2 lacks 15, so all has to go over 20-21-22, and there alone.
            Seepwork x = withRows(2, 3);
            x.shut(15, true);
            Due.is("red() of a row and a half", x.red(BONDS, 1), 2);
            // Twigs are not red: 2 alone is beside the row 1.
            Seepwork twig = withRows(1);
            twig.shut(2, false);
            Due.is("red() of a row and a twig", twig.red(BONDS, 1), 5);
        });
        DOCUMENT.range(15, KIND, BAD_ARGUMENT, 0, 2, (x, kind) -> x.red(kind, 5));
        DOCUMENT.range(15, THRESHOLD, BAD_ARGUMENT, 0, 1000, (x, p) -> x.red(BOTH, p));
        DOCUMENT.of(15, "@return how many; 0 if there is no span across", () -> {
            Due.is("red(BONDS, 0)", new Seepwork().red(BONDS, 0), 0);
            Due.is("red(BONDS, 100)", withTopRow().red(BONDS, 100), 0);
            Due.is("red(BONDS, 101)", withTopRow().red(BONDS, 101), 5);
            Due.is("red(BONDS, 1000), where all are SHUT", Start.ALL_SHUT.make().red(BONDS, 1000), 0);
        });
    }

    private static void shortest() {
        DOCUMENT.of(16, "Returns the least number of BONDS of a way from the left column to the right one.", () -> {
            Due.is("shortest() of all", new Seepwork().shortest(BONDS, 1), 5);
            Due.is("shortest() of one row", withRows(5).shortest(BOTH, 1), 5);
            // The row 2 lacks 15, but the row 3 is whole; then its ends are missing too, and the way goes down and up.
            Seepwork x = withRows(2, 3);
            x.shut(15, true);
            Due.is("shortest() of a row and a half", x.shortest(BONDS, 1), 5);
            x.shut(18, true);
            x.shut(23, true);
            Due.is("shortest() around 15", x.shortest(BONDS, 1), 7);
            // 11 and 17 are farther than 5, and so are 0 and 6 than 12: the nearest of several counts.
            Seepwork several = withOnly(0, 1, 2, 3, 4, 5, 11, 17);
            Due.is("shortest() to the nearest of several", several.shortest(BONDS, 1), 5);
            Due.is("shortest() from the nearest of several",
                    withOnly(0, 6, 12, 13, 14, 15, 16, 17, 23).shortest(BONDS, 1), 5);
        });
        DOCUMENT.range(16, KIND, BAD_ARGUMENT, 0, 2, (x, kind) -> x.shortest(kind, 5));
        DOCUMENT.range(16, THRESHOLD, BAD_ARGUMENT, 0, 1000, (x, p) -> x.shortest(BOTH, p));
        DOCUMENT.of(16, "@return the number; NONE without a way", () -> {
            Due.is("shortest(BONDS, 0)", new Seepwork().shortest(BONDS, 0), NONE);
            Due.is("shortest(SITES, 0)", new Seepwork().shortest(SITES, 0), NONE);
            Due.is("shortest(BONDS, 100)", withTopRow().shortest(BONDS, 100), NONE);
            Due.is("shortest(BONDS, 101)", withTopRow().shortest(BONDS, 101), 5);
            Due.is("shortest(BONDS, 1000), where all are SHUT", Start.ALL_SHUT.make().shortest(BONDS, 1000), NONE);
        });
    }
}
