/** All promises: what is answered where there is nothing, nothing of a kind, or nothing to do. */
public final class EmptyTest {
    private static final int NONE = Seepwork.NONE;

    public static void main(String[] args) {
        noTree();
        noWetSite();
        noOil();
        noLetter();
        noLoad();
        noPressure();
        noStrike();
        noStepOfScale();
        noChance();
        noTime();
        noSiteByInvasion();
        noSetOfBonds();
        noBondInABlock();
        noOpenBond();
        noOpenSite();
        noSiteButOne();
        allShutThresholds();
        allShutTimes();
        allShutLand();
        allShutOil();
        allShutMeasures();
        Due.end();
    }

    private static void noTree() {
        Seepwork x = new Seepwork();
        Due.is("count(1)", x.count(1), 0);
        for (int site = 0; site < 36; site++) {
            Due.is("lightning(" + site + ") without TREES", x.lightning(site), 0);
        }
        // Lightning that burns nothing is no draw: the first TREE stands on 25 all the same.
        Due.is("grow(1)", x.grow(1), 1);
        Due.is("lightning(24), beside the one TREE", x.lightning(24), 0);
        Due.is("lightning(26), beside the one TREE", x.lightning(26), 0);
        Due.is("lightning(19), beside the one TREE", x.lightning(19), 0);
        Due.is("lightning(31), beside the one TREE", x.lightning(31), 0);
        Due.is("count(1)", x.count(1), 1);
        Due.is("lightning(25)", x.lightning(25), 1);
        Due.is("lightning(25) again", x.lightning(25), 0);
    }

    private static void noWetSite() {
        Seepwork x = new Seepwork();
        for (int k = 1; k <= 4; k++) {
            Due.is("filled(" + k + ", 0) without WET ones", x.filled(k, 0), 0);
            Due.is("filled(" + k + ", 1) without WET ones", x.filled(k, 1), 0);
        }
        Due.is("count(2)", x.count(2), 0);
        Due.is("wet(5, false), where it is not", x.wet(5, false), false);
        Due.is("count(2)", x.count(2), 0);
    }

    private static void noOil() {
        Seepwork x = new Seepwork();
        for (int pressure : new int[] {0, 1, 1000}) {
            Due.is("soak(" + pressure + ") without oil", x.soak(pressure), 0);
        }
        Due.is("trapped(true)", x.trapped(true), 0);
        Due.is("trapped(false)", x.trapped(false), 0);
        Due.is("count(3)", x.count(3), 0);
    }

    private static void noLetter() {
        Seepwork x = new Seepwork();
        Due.is("wipe()", x.wipe(), 0);
        Due.is("count(4)", x.count(4), 0);
        Due.badState(x, "measure(BONDS, 500) by an empty NAME", () -> x.measure(0, 500));
        Start.typeName(x, "cut");
        x.wipe();
        Due.badState(x, "measure(BONDS, 500) by a wiped NAME", () -> x.measure(0, 500));
        Due.is("wipe() again", x.wipe(), 0);
    }

    private static void noLoad() {
        Seepwork x = new Seepwork();
        for (int fibre = 0; fibre < 12; fibre++) {
            x.fibre(fibre, 1);
        }
        // By 11 each one bears 0, by 23 it bears 1, which is as much as it can.
        for (int load : new int[] {0, 1, 11, 12, 23}) {
            Due.is("load(" + load + ", false)", x.load(load, false), 0);
            Due.is("load(" + load + ", true)", x.load(load, true), 0);
        }
        Due.is("load(24, false)", x.load(24, false), 12);
        Due.is("load(24, true)", x.load(24, true), 12);
    }

    /** No NUMBER is below 0, and all are 0 or more. */
    private static void noPressure() {
        Seepwork x = new Seepwork();
        Due.is("drain(0) over NUMBERS 0", x.drain(0), 0);
        Due.is("drain(1) over NUMBERS 0", x.drain(1), 36);
        // From the top row on all are soaked, until 30 has water, and so nothing hangs on the left any more.
        Due.is("soak(0) over NUMBERS 0", x.soak(0), 5);
        Due.is("trapped(true), 31 to 35", x.trapped(true), 5);
        Due.is("soak(0) again", x.soak(0), 5);
    }

    private static void noStrike() {
        Seepwork x = new Seepwork();
        Due.is("strike(0)", x.strike(0), 0);
        x.shut(3, true);
        Due.is("strike(0)", x.strike(0), 1);
        Due.is("count(0)", x.count(0), 1);
    }

    private static void noStepOfScale() {
        Seepwork x = new Seepwork();
        for (int p : new int[] {0, 1, 499, 618, 999, 1000}) {
            Due.is("scale(" + p + ", 0)", x.scale(p, 0), p);
        }
    }

    private static void noChance() {
        Seepwork x = new Seepwork();
        for (int n : new int[] {0, 1, 50}) {
            Due.is("scale(0, " + n + ")", x.scale(0, n), 0);
            Due.is("scale(1000, " + n + ")", x.scale(1000, n), 1000);
        }
        // 2 times 22 squared times 978 squared is less than 1000000000, and by 23 it is more.
        Due.is("scale(22, 1)", x.scale(22, 1), 0);
        Due.is("scale(23, 1)", x.scale(23, 1), 1);
        Due.is("scale(999, 1)", x.scale(999, 1), 999);
        // 999.996 is rounded down each time.
        Due.is("scale(999, 50)", x.scale(999, 50), 999);
        Due.is("chance(3, 3, 0)", x.chance(3, 3, 0), 0);
        Due.is("chance(2, 1, 0)", x.chance(2, 1, 0), 0);
        Due.is("chance(1, 4, 0), one column wide", x.chance(1, 4, 0), 1000);
        Due.is("chance(1, 1, 0), one place", x.chance(1, 1, 0), 1);
    }

    private static void noTime() {
        Seepwork x = new Seepwork();
        for (int site = 0; site < 36; site++) {
            Due.is("time to itself", x.time(site, site), 0);
            Due.is("ball(" + site + ", 0)", x.ball(site, 0), 1);
        }
        // Though its NUMBER is 0, a BOND takes 1.
        Due.is("time(0, 1)", x.time(0, 1), 1);
        Due.is("ball(0, 1)", x.ball(0, 1), 3);
    }

    private static void noSiteByInvasion() {
        Seepwork x = new Seepwork();
        for (int site = 0; site < 36; site++) {
            Due.is("invade(" + site + ", 0)", x.invade(site, 0), site);
            Due.is("invaded(" + site + ", 0)", x.invaded(site, 0), NONE);
        }
        Due.is("invaded(0, 1) by NUMBERS 0", x.invaded(0, 1), 0);
    }

    private static void noSetOfBonds() {
        Seepwork x = new Seepwork();
        for (int h = 1; h <= 4; h++) {
            Due.is("polynomial(1, " + h + ", 0)", x.polynomial(1, h, 0), 1);
            Due.is("pivots(1, " + h + ", 0)", x.pivots(1, h, 0), 0);
            Due.is("polynomial(2, " + h + ", 0)", x.polynomial(2, h, 0), 0);
            // Any of the rows alone does it.
            Due.is("pivots(2, " + h + ", 0)", x.pivots(2, h, 0), h);
        }
        Due.is("polynomial(3, 3, 0)", x.polynomial(3, 3, 0), 0);
        Due.is("pivots(3, 3, 0)", x.pivots(3, 3, 0), 0);
    }

    private static void noBondInABlock() {
        Seepwork x = new Seepwork();
        Due.is("polynomial(1, 1, 0)", x.polynomial(1, 1, 0), 1);
        Due.is("pivots(1, 1, 0)", x.pivots(1, 1, 0), 0);
        for (int a = 0; a <= 10; a++) {
            Due.is("chance(1, 1, " + a + ")", x.chance(1, 1, a), 1);
        }
        for (int k = 1; k <= 4; k++) {
            Due.is("leastWet(1, 1, " + k + ")", x.leastWet(1, 1, k), 1);
        }
        Due.outOfRange(x, "polynomial(1, 1, 1)", () -> x.polynomial(1, 1, 1));
        Due.outOfRange(x, "pivots(1, 1, 1)", () -> x.pivots(1, 1, 1));
    }

    /** By BONDS the SITES are OPEN at 0, but no BOND is. */
    private static void noOpenBond() {
        Seepwork x = new Seepwork();
        thresholdsAre(x, Seepwork.BONDS, 0, 36, 1, 36);
        for (int site = 0; site < 36; site++) {
            Due.is("cluster(BONDS, 0, " + site + ")", x.cluster(Seepwork.BONDS, 0, site), site);
        }
        for (int bond = 0; bond < 60; bond++) {
            x.bond(bond, 999);
        }
        thresholdsAre(x, Seepwork.BONDS, 999, 36, 1, 36);
        Due.is("spans(BONDS, 1000, false)", x.spans(Seepwork.BONDS, 1000, false), true);
    }

    private static void noOpenSite() {
        Seepwork x = new Seepwork();
        for (int kind : new int[] {Seepwork.SITES, Seepwork.BOTH}) {
            thresholdsAre(x, kind, 0, 0, 0, 0);
            for (int site = 0; site < 36; site++) {
                Due.is("cluster(" + kind + ", 0, " + site + ")", x.cluster(kind, 0, site), NONE);
            }
        }
        for (int site = 0; site < 36; site++) {
            x.site(site, 999);
        }
        thresholdsAre(x, Seepwork.SITES, 999, 0, 0, 0);
        thresholdsAre(x, Seepwork.BOTH, 999, 0, 0, 0);
        Due.is("spans(SITES, 1000, true)", x.spans(Seepwork.SITES, 1000, true), true);
        Due.is("spans(BOTH, 1000, true)", x.spans(Seepwork.BOTH, 1000, true), true);
    }

    /** There is no span at this threshold, but so many CLUSTERS of such sizes. */
    private static void thresholdsAre(Seepwork x, int kind, int p, int many, int greatest, int squares) {
        String shown = "(" + kind + ", " + p + ", ..)";
        Due.is("sizes" + shown + " many", x.sizes(kind, p, 0), many);
        Due.is("sizes" + shown + " greatest", x.sizes(kind, p, 1), greatest);
        Due.is("sizes" + shown + " squares", x.sizes(kind, p, 2), squares);
        Due.is("spans" + shown + " across", x.spans(kind, p, false), false);
        Due.is("spans" + shown + " down", x.spans(kind, p, true), false);
        Due.is("ways" + shown, x.ways(kind, p), 0);
        Due.is("cut" + shown, x.cut(kind, p), 0);
        Due.is("red" + shown, x.red(kind, p), 0);
        Due.is("shortest" + shown, x.shortest(kind, p), NONE);
    }

    /** Each SITE in turn is the only one that is not SHUT. */
    private static void noSiteButOne() {
        for (int one = 0; one < 36; one++) {
            Seepwork x = new Seepwork();
            x.strike(36);
            x.shut(one, false);
            for (int kind = 0; kind <= 2; kind++) {
                Due.is("cluster(" + kind + ", 1, " + one + ")", x.cluster(kind, 1, one), one);
                thresholdsAre(x, kind, 1, 1, 1, 1);
                Due.is("edge(" + kind + ", false)", x.edge(kind, false), NONE);
                Due.is("edgeAnew(" + kind + ", true)", x.edgeAnew(kind, true), NONE);
            }
            Due.is("time to itself", x.time(one, one), 0);
            Due.is("ball(" + one + ", 60000)", x.ball(one, 60000), 1);
            Due.is("invade(" + one + ", 0)", x.invade(one, 0), one);
            Due.is("invade(" + one + ", 1)", x.invade(one, 1), NONE);
            Due.is("invaded(" + one + ", 1)", x.invaded(one, 1), NONE);
            Due.is("invaded(" + one + ", 35)", x.invaded(one, 35), NONE);
            x.wet(one, true);
            Due.is("filled(1, 0)", x.filled(1, 0), 1);
            Due.is("filled(1, 1)", x.filled(1, 1), 0);
            // Its water hangs on the right, and oil comes from the left: no SITE is at both sides.
            Due.is("drain(1000)", x.drain(1000), 0);
            Due.is("trapped(false)", x.trapped(false), one % 6 == 5 ? 0 : 1);
            Due.is("strike(1)", x.strike(1), 36);
        }
    }

    private static Seepwork allShut() {
        Seepwork x = new Seepwork();
        x.seed(5);
        Due.is("strike(36)", x.strike(36), 36);
        return x;
    }

    private static void allShutThresholds() {
        Seepwork x = allShut();
        for (int kind = 0; kind <= 2; kind++) {
            for (int p : new int[] {0, 500, 1000}) {
                thresholdsAre(x, kind, p, 0, 0, 0);
                for (int site = 0; site < 36; site += 5) {
                    Due.is("cluster(" + kind + ", " + p + ", " + site + ")", x.cluster(kind, p, site), NONE);
                }
            }
            for (boolean isDown : new boolean[] {false, true}) {
                Due.is("edge(" + kind + ", " + isDown + ")", x.edge(kind, isDown), NONE);
                Due.is("edgeAnew(" + kind + ", " + isDown + ")", x.edgeAnew(kind, isDown), NONE);
            }
        }
        // The NUMBERS are there all the same: the seed 5 draws 8642 first.
        Due.is("numberOf(BONDS, 0)", x.numberOf(Seepwork.BONDS, 0), 642);
    }

    private static void allShutTimes() {
        Seepwork x = allShut();
        for (int site = 0; site < 36; site++) {
            int one = site;
            Due.is("time to itself", x.time(site, site), NONE);
            Due.is("ball(" + site + ", 60000)", x.ball(site, 60000), 0);
            Due.is("rival(" + site + ", ..)", x.rival(site, (site + 1) % 36, site), NONE);
            Due.isText("invade(" + site + ", 0) throws", Due.thrownBy(() -> x.invade(one, 0)),
                    "java.lang.IllegalStateException");
            Due.isText("invaded(" + site + ", 0) throws", Due.thrownBy(() -> x.invaded(one, 0)),
                    "java.lang.IllegalStateException");
        }
        Due.is("time(0, 1)", x.time(0, 1), NONE);
    }

    private static void allShutLand() {
        Seepwork x = allShut();
        Due.is("strike(36)", x.strike(36), 36);
        Due.is("strike(1)", x.strike(1), 36);
        Due.is("strike(0)", x.strike(0), 36);
        Due.is("grow(200)", x.grow(200), 0);
        for (int k = 1; k <= 4; k++) {
            Due.is("filled(" + k + ", 0)", x.filled(k, 0), 0);
            Due.is("filled(" + k + ", 1)", x.filled(k, 1), 0);
        }
        for (int site = 0; site < 36; site++) {
            int one = site;
            Due.is("lightning(" + site + ")", x.lightning(site), 0);
            Due.isText("wet(" + site + ", false) throws", Due.thrownBy(() -> x.wet(one, false)),
                    "java.lang.IllegalStateException");
            Due.is("shut(" + site + ", true)", x.shut(site, true), true);
        }
        // The 200 draws count though none grew: the next one is the 201st.
        long d = 0;
        for (int i = 0; i <= 200; i++) {
            d = (25173L * d + 13849L) % 65536L;
        }
        x.shut((int) (d % 36L), false);
        Due.is("grow(1)", x.grow(1), 1);
    }

    private static void allShutOil() {
        Seepwork x = allShut();
        for (int pressure : new int[] {0, 1, 1000}) {
            Due.is("drain(" + pressure + ")", x.drain(pressure), 0);
            Due.is("soak(" + pressure + ")", x.soak(pressure), 0);
        }
        Due.is("trapped(true)", x.trapped(true), 0);
        Due.is("trapped(false)", x.trapped(false), 0);
        // Oil goes with the SITE that becomes SHUT, and all of them do.
        Seepwork y = new Seepwork();
        Due.is("drain(1)", y.drain(1), 36);
        Due.is("strike(36)", y.strike(36), 36);
        Due.is("count(3)", y.count(3), 0);
        Due.is("soak(0)", y.soak(0), 0);
    }

    private static void allShutMeasures() {
        String[] names = {"many", "size", "span", "cut", "red", "way"};
        int[] due = {0, 0, 0, 0, 0, NONE};
        for (int i = 0; i < names.length; i++) {
            Seepwork x = allShut();
            Start.typeName(x, names[i]);
            for (int kind = 0; kind <= 2; kind++) {
                Due.is("measure(" + kind + ", 1000) " + names[i], x.measure(kind, 1000), due[i]);
                Due.is("measure(" + kind + ", 0) " + names[i], x.measure(kind, 0), due[i]);
                Due.is("estimate(" + kind + ", 1000, 30)", x.estimate(kind, 1000, 30), 0);
            }
            int[] counts = {36, 0, 0, 0, names[i].length()};
            for (int what = 0; what <= 4; what++) {
                Due.is("count(" + what + ")", x.count(what), counts[what]);
            }
        }
    }
}
