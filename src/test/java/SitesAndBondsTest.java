/** Promises 1 to 7. */
public final class SitesAndBondsTest {
    public static void main(String[] args) {
        promise1NewObject();
        promise2Seed();
        promise3Bond();
        promise4Site();
        promise5NumberOf();
        promise6Shut();
        nothingLeadsOverAShutOne();
        nothingGoesToAShutOne();
        aShutOneKeepsItsNumber();
        whatAStruckOneHadIsGone();
        promise7Strike();
        everyNumberIsKept();
        Due.end();
    }

    private static void promise1NewObject() {
        Seepwork x = new Seepwork();
        for (int bond = 0; bond < 60; bond++) {
            Due.is("numberOf(BOTH, " + bond + ")", x.numberOf(Seepwork.BOTH, bond), 0);
        }
        for (int site = 0; site < 36; site++) {
            Due.is("site(" + site + ", 0)", x.site(site, 0), 0);
            Due.is("wet(" + site + ", false)", x.wet(site, false), false);
            Due.is("lightning(" + site + ")", x.lightning(site), 0);
            Due.is("shut(" + site + ", false)", x.shut(site, false), false);
        }
        for (int what = 0; what <= 4; what++) {
            Due.is("count(" + what + ")", x.count(what), 0);
        }
        for (int fibre = 0; fibre < 12; fibre++) {
            Due.is("fibre(" + fibre + ", 100)", x.fibre(fibre, 100), 100);
        }
        Due.is("trapped(true)", x.trapped(true), 0);
        Due.is("trapped(false)", x.trapped(false), 0);
        Due.is("wipe()", x.wipe(), 0);
        Due.is("grow(1)", x.grow(1), 1);
        Due.is("lightning(25)", x.lightning(25), 1);
        x.shut(3, true);
        x.seed(5);
        Due.is("numberOf() of another object", new Seepwork().numberOf(Seepwork.BOTH, 3), 0);
        Due.is("count(0) of another object", new Seepwork().count(0), 0);
    }

    private static void promise2Seed() {
        for (int seed : new int[] {0, 1, 777, 65535}) {
            Seepwork x = new Seepwork();
            x.bond(0, 998);
            x.seed(seed);
            long z = seed;
            for (int bond = 0; bond < 60; bond++) {
                z = (25173L * z + 13849L) % 65536L;
                Due.is("bond " + bond + " by seed " + seed, x.numberOf(Seepwork.BONDS, bond), z % 1000L);
            }
            for (int site = 0; site < 36; site++) {
                z = (25173L * z + 13849L) % 65536L;
                Due.is("site " + site + " by seed " + seed, x.site(site, 0), z % 1000L);
            }
        }
        Seepwork x = new Seepwork();
        x.seed(0);
        Due.is("bond(0, 0)", x.bond(0, 0), 849);
        Due.is("bond(1, 0)", x.bond(1, 0), 742);
        x.seed(0);
        Due.is("bond(0, 0) by the same seed again", x.bond(0, 0), 849);
        Due.outOfRange(x, "seed(-1)", () -> x.seed(-1));
        Due.outOfRange(x, "seed(65536)", () -> x.seed(65536));
        Due.outOfRange(x, "seed(MIN_VALUE)", () -> x.seed(Integer.MIN_VALUE));
        theRestStaysBySeed();
    }

    private static void theRestStaysBySeed() {
        Seepwork x = new Seepwork();
        x.shut(0, true);
        x.wet(1, true);
        x.grow(1);
        x.fibre(2, 7);
        x.drain(1);
        int oil = x.count(3);
        x.type('a');
        x.seed(9);
        Due.is("count(0)", x.count(0), 1);
        Due.is("count(1)", x.count(1), 1);
        Due.is("count(2)", x.count(2), 1);
        Due.is("count(3)", x.count(3), oil);
        Due.is("count(4)", x.count(4), 1);
        Due.is("fibre(2, 7)", x.fibre(2, 7), 7);
        // The draws of the TREES go on: the second one stands on 34.
        x.grow(1);
        Due.is("lightning(34)", x.lightning(34), 1);
    }

    private static void promise3Bond() {
        Seepwork x = new Seepwork();
        for (int bond = 0; bond < 60; bond++) {
            Due.is("bond(" + bond + ", ..)", x.bond(bond, 900 + bond), 0);
        }
        for (int bond = 0; bond < 60; bond++) {
            Due.is("bond(" + bond + ", 1)", x.bond(bond, 1), 900 + bond);
        }
        Due.is("bond(0, 999)", x.bond(0, 999), 1);
        Due.is("bond(0, 0)", x.bond(0, 0), 999);
        Due.noSuch(x, "bond(-1, 0)", () -> x.bond(-1, 0));
        Due.noSuch(x, "bond(60, 0)", () -> x.bond(60, 0));
        Due.noSuch(x, "bond(60, 1000)", () -> x.bond(60, 1000));
        Due.outOfRange(x, "bond(3, -1)", () -> x.bond(3, -1));
        Due.outOfRange(x, "bond(3, 1000)", () -> x.bond(3, 1000));
        for (int site = 0; site < 36; site++) {
            Due.is("site(" + site + ", 0)", x.site(site, 0), 0);
        }
    }

    private static void promise4Site() {
        Seepwork x = new Seepwork();
        for (int site = 0; site < 36; site++) {
            Due.is("site(" + site + ", ..)", x.site(site, 900 + site), 0);
        }
        for (int site = 0; site < 36; site++) {
            Due.is("site(" + site + ", 1)", x.site(site, 1), 900 + site);
        }
        Due.is("site(35, 999)", x.site(35, 999), 1);
        Due.is("site(35, 0)", x.site(35, 0), 999);
        x.shut(4, true);
        Due.is("site(4, 2) of a SHUT one", x.site(4, 2), 1);
        Due.noSuch(x, "site(-1, 0)", () -> x.site(-1, 0));
        Due.noSuch(x, "site(36, 0)", () -> x.site(36, 0));
        Due.noSuch(x, "site(36, -1)", () -> x.site(36, -1));
        Due.outOfRange(x, "site(3, -1)", () -> x.site(3, -1));
        Due.outOfRange(x, "site(3, 1000)", () -> x.site(3, 1000));
        for (int bond = 0; bond < 60; bond++) {
            Due.is("bond(" + bond + ", 0)", x.bond(bond, 0), 0);
        }
    }

    private static void promise5NumberOf() {
        Seepwork x = new Seepwork();
        for (int site = 0; site < 36; site++) {
            x.site(site, 100 + site);
        }
        for (int row = 0; row < 6; row++) {
            for (int column = 0; column < 5; column++) {
                int bond = 5 * row + column;
                Due.is("numberOf(SITES, " + bond + ")", x.numberOf(1, bond), 100 + 6 * row + column + 1);
            }
        }
        for (int row = 0; row < 5; row++) {
            for (int column = 0; column < 6; column++) {
                int bond = 30 + 6 * row + column;
                Due.is("numberOf(SITES, " + bond + ")", x.numberOf(1, bond), 100 + 6 * (row + 1) + column);
            }
        }
        x.site(0, 500);
        Due.is("numberOf(SITES, 0), the lower one greater", x.numberOf(1, 0), 500);
        Due.is("numberOf(SITES, 30), the lower one greater", x.numberOf(1, 30), 500);
        Due.is("numberOf(BONDS, 0)", x.numberOf(0, 0), 0);
        x.bond(0, 499);
        Due.is("numberOf(BONDS, 0)", x.numberOf(0, 0), 499);
        Due.is("numberOf(BOTH, 0)", x.numberOf(2, 0), 500);
        x.bond(0, 501);
        Due.is("numberOf(BOTH, 0)", x.numberOf(2, 0), 501);
        Due.is("numberOf(SITES, 0)", x.numberOf(1, 0), 500);
        x.shut(0, true);
        Due.is("numberOf(BOTH, 0) with a SHUT one", x.numberOf(2, 0), 501);
        Due.noSuch(x, "numberOf(0, -1)", () -> x.numberOf(0, -1));
        Due.noSuch(x, "numberOf(0, 60)", () -> x.numberOf(0, 60));
        Due.noSuch(x, "numberOf(3, 60)", () -> x.numberOf(3, 60));
        Due.outOfRange(x, "numberOf(-1, 0)", () -> x.numberOf(-1, 0));
        Due.outOfRange(x, "numberOf(3, 0)", () -> x.numberOf(3, 0));
    }

    private static void promise6Shut() {
        Seepwork x = new Seepwork();
        Due.is("shut(0, false)", x.shut(0, false), false);
        Due.is("shut(0, true)", x.shut(0, true), false);
        Due.is("shut(0, true)", x.shut(0, true), true);
        Due.is("count(0)", x.count(0), 1);
        Due.is("shut(0, false)", x.shut(0, false), true);
        Due.is("count(0)", x.count(0), 0);
        x.grow(1);
        x.wet(25, true);
        x.site(24, 3);
        x.site(25, 3);
        for (int site = 0; site < 36; site++) {
            x.site(site, site == 24 || site == 25 ? 3 : 9);
        }
        Due.is("drain(5)", x.drain(5), 2);
        Due.is("shut(25, true)", x.shut(25, true), false);
        Due.is("count(1) behind shut(25, true)", x.count(1), 0);
        Due.is("count(2) behind shut(25, true)", x.count(2), 0);
        Due.is("count(3) behind shut(25, true)", x.count(3), 1);
        Due.is("shut(25, false)", x.shut(25, false), true);
        Due.is("count(1) behind shut(25, false)", x.count(1), 0);
        Due.is("count(2) behind shut(25, false)", x.count(2), 0);
        Due.is("count(3) behind shut(25, false)", x.count(3), 1);
        Due.is("count(0)", x.count(0), 0);
        x.wet(25, true);
        x.shut(25, false);
        Due.is("count(2) behind another shut(25, false)", x.count(2), 1);
        Due.is("shut(35, true)", x.shut(35, true), false);
        Due.noSuch(x, "shut(-1, true)", () -> x.shut(-1, true));
        Due.noSuch(x, "shut(36, false)", () -> x.shut(36, false));
    }

    /** One row, or one column, is all that is not SHUT, and each of its SITES in turn becomes SHUT for a while. */
    private static void nothingLeadsOverAShutOne() {
        for (int line = 0; line < 6; line++) {
            for (int gap = 0; gap < 6; gap++) {
                lineIsBarred(line, gap, false);
                lineIsBarred(line, gap, true);
            }
        }
    }

    private static int siteOfLine(int line, int place, boolean isDown) {
        return isDown ? 6 * place + line : 6 * line + place;
    }

    private static void lineIsBarred(int line, int gap, boolean isDown) {
        Seepwork x = new Seepwork();
        x.strike(36);
        for (int place = 0; place < 6; place++) {
            x.shut(siteOfLine(line, place, isDown), place == gap);
        }
        lineIs(x, line, isDown, false);
        x.shut(siteOfLine(line, gap, isDown), false);
        lineIs(x, line, isDown, true);
        x.shut(siteOfLine(line, gap, isDown), true);
        lineIs(x, line, isDown, false);
    }

    private static void lineIs(Seepwork x, int line, boolean isDown, boolean isWhole) {
        String shown = "line " + line + (isDown ? " down, " : " across, ");
        int first = siteOfLine(line, 0, isDown);
        int last = siteOfLine(line, 5, isDown);
        for (int kind = 0; kind <= 2; kind++) {
            Due.is(shown + "edge()", x.edge(kind, isDown), isWhole ? 1 : -1);
            Due.is(shown + "edgeAnew()", x.edgeAnew(kind, isDown), isWhole ? 1 : -1);
            Due.is(shown + "edge() the other way", x.edge(kind, !isDown), -1);
            Due.is(shown + "edgeAnew() the other way", x.edgeAnew(kind, !isDown), -1);
            Due.is(shown + "spans()", x.spans(kind, 1000, isDown), isWhole);
            boolean isAcross = isWhole && !isDown;
            Due.is(shown + "ways()", x.ways(kind, 1000), isAcross ? 1 : 0);
            Due.is(shown + "cut()", x.cut(kind, 1000), isAcross ? 1 : 0);
            Due.is(shown + "red()", x.red(kind, 1000), isAcross ? 5 : 0);
            Due.is(shown + "shortest()", x.shortest(kind, 1000), isAcross ? 5 : -1);
            Due.is(shown + "estimate()", x.estimate(kind, 1000, 2), isAcross ? 2 : 0);
        }
        Due.is(shown + "time()", x.time(first, last), isWhole ? 5 : -1);
        Due.is(shown + "ball()", x.ball(last, 60000) == 6, isWhole);
    }

    private static void nothingGoesToAShutOne() {
        // 25 is where the first TREE would grow.
        Seepwork x = new Seepwork();
        x.shut(25, true);
        x.wet(24, true);
        Due.is("grow(1) at a SHUT one", x.grow(1), 0);
        Due.is("filled(1, 0) beside a SHUT one", x.filled(1, 0), 35);
        Due.is("drain(1) beside a SHUT one", x.drain(1), 35);
        for (int n = 0; n <= 34; n++) {
            Due.is("invade(24, " + n + ") is not SHUT", x.invade(24, n) != 25, true);
        }
        Due.is("invade(24, 35)", x.invade(24, 35), -1);
        Due.badState(x, "wet(25, true)", () -> x.wet(25, true));
        x.shut(25, false);
        Due.is("filled(1, 0) where none is SHUT any more", x.filled(1, 0), 36);
        Due.is("wet(25, true)", x.wet(25, true), false);
        // Oil is all around what became open, so its water hangs on nothing.
        Due.is("drain(1) around 25", x.drain(1), 35);
        Due.is("trapped(false)", x.trapped(false), 1);
        Due.is("invade(24, 35) is one", x.invade(24, 35) != -1, true);
        int rounds = 0;
        while (x.lightning(25) == 0 && rounds < 300) {
            x.grow(1);
            rounds++;
        }
        Due.is("a TREE grows at 25 in the end", rounds < 300, true);
    }

    private static void aShutOneKeepsItsNumber() {
        Seepwork x = new Seepwork();
        x.site(8, 321);
        x.shut(8, true);
        Due.is("site(8, 322) of a SHUT one", x.site(8, 322), 321);
        x.seed(6);
        Seepwork y = new Seepwork();
        y.seed(6);
        x.shut(8, false);
        Due.isText("NUMBERS drawn while one is SHUT", Probe.of(x), Probe.of(y));
    }

    private static void whatAStruckOneHadIsGone() {
        // 7 is the first one in rank.
        Seepwork x = new Seepwork();
        x.drain(1);
        x.wet(7, true);
        Start.growAll(x);
        Due.is("strike(1)", x.strike(1), 1);
        Due.is("count(1) behind strike(1)", x.count(1), 35);
        Due.is("count(2) behind strike(1)", x.count(2), 0);
        Due.is("count(3) behind strike(1)", x.count(3), 35);
        Due.is("shut(7, false)", x.shut(7, false), true);
        Due.is("count(1) behind shut(7, false)", x.count(1), 35);
        Due.is("lightning(7)", x.lightning(7), 0);
        Due.is("wet(7, false)", x.wet(7, false), false);
        Due.is("trapped(false), 7 alone", x.trapped(false), 1);
    }

    private static void promise7Strike() {
        Seepwork x = new Seepwork();
        Due.is("strike(0)", x.strike(0), 0);
        x.wet(7, true);
        Due.is("strike(1)", x.strike(1), 1);
        Due.is("shut(7, true)", x.shut(7, true), true);
        Due.is("count(2)", x.count(2), 0);
        Due.is("strike(1)", x.strike(1), 2);
        Due.is("shut(9, true)", x.shut(9, true), true);
        Due.is("strike(2)", x.strike(2), 4);
        Due.is("shut(14, true)", x.shut(14, true), true);
        Due.is("shut(16, true)", x.shut(16, true), true);
        Due.is("strike(0)", x.strike(0), 4);
        Due.is("strike(36)", x.strike(36), 36);
        Due.is("strike(36)", x.strike(36), 36);
        x.shut(20, false);
        Due.is("strike(1), at one alone", x.strike(1), 36);
        Due.is("shut(20, true)", x.shut(20, true), true);
        // Of those that have none beside them, the lowest one goes first.
        Seepwork y = new Seepwork();
        for (int site = 0; site < 36; site++) {
            y.shut(site, site != 2 && site != 13 && site != 35);
        }
        Due.is("strike(1) at lone ones", y.strike(1), 34);
        Due.is("shut(2, true)", y.shut(2, true), true);
        Due.is("strike(1) at lone ones", y.strike(1), 35);
        Due.is("shut(35, true)", y.shut(35, true), false);
        Due.outOfRange(x, "strike(-1)", () -> x.strike(-1));
        Due.outOfRange(x, "strike(37)", () -> x.strike(37));
    }

    /** Each BOND and SITE takes each NUMBER, and tells it to the next one. */
    private static void everyNumberIsKept() {
        for (int place = 0; place < 60; place++) {
            // Each object is told 250 NUMBERS, of both.
            Seepwork x = null;
            for (int number = 0; number < 1000; number++) {
                boolean isNew = number % 250 == 0;
                x = isNew ? new Seepwork() : x;
                int before = isNew ? 0 : number - 1;
                Due.is("bond(" + place + ", " + number + ")", x.bond(place, number), before);
                if (place < 36) {
                    Due.is("site(" + place + ", " + number + ")", x.site(place, number), before);
                }
            }
        }
    }
}
