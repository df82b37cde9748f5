import java.util.ArrayList;
import java.util.List;

/** The section "Terms", sentence by sentence. */
public final class TermsSentencesTest {
    private static final int NONE = Seepwork.NONE;
    private static final int BONDS = Seepwork.BONDS;
    private static final int SITES = Seepwork.SITES;
    private static final int BOTH = Seepwork.BOTH;

    private static final Sentences DOCUMENT = new Sentences();

    public static void main(String[] args) {
        calls();
        placesOfSites();
        numbersAndSeeds();
        shutSites();
        openOnes();
        waysAndClusters();
        blocks();
        times();
        invasion();
        wetOnes();
        trees();
        ring();
        evenly();
        byNeighbours();
        whatHangs();
        drainage();
        soaking();
        scaleAndName();
        measures();
        DOCUMENT.end(Sentences.TERMS, Sentences.TERMS);
    }

    private static void says(String sentence, Due.Call test) {
        DOCUMENT.of(Sentences.TERMS, sentence, test);
    }

    // ---- objects that several tests begin with

    /** All is SHUT but these SITES. */
    private static Seepwork withOnly(int... sites) {
        Seepwork x = new Seepwork();
        x.strike(36);
        for (int site : sites) {
            x.shut(site, false);
        }
        return x;
    }

    private static Seepwork withBonds(int number) {
        Seepwork x = new Seepwork();
        for (int bond = 0; bond < 60; bond++) {
            x.bond(bond, number);
        }
        return x;
    }

    private static Seepwork withSites(int number) {
        Seepwork x = new Seepwork();
        for (int site = 0; site < 36; site++) {
            x.site(site, number);
        }
        return x;
    }

    private static Seepwork withStrengths(int strength) {
        Seepwork x = new Seepwork();
        for (int fibre = 0; fibre < 12; fibre++) {
            x.fibre(fibre, strength);
        }
        return x;
    }

    private static void throwsOne(Class<? extends RuntimeException> due, String shown, Due.Call call) {
        Due.isText(shown + " throws", Due.thrownBy(call), due.getName());
    }

    // ---- calls

    private static void calls() {
        says("divisions are rounded down", () -> {
            Seepwork x = withStrengths(1);
            Due.is("scale(500, 1)", x.scale(500, 1), 437);
            Due.is("load(23, true)", x.load(23, true), 0);
            Due.is("load(23, false)", x.load(23, false), 0);
        });
        says("If several exceptions apply to a call, the one that its comment lists first is thrown.",
                TermsSentencesTest::theFirstOneIsThrown);
        says("A call that throws an exception changes nothing", () -> {
            Seepwork x = Start.MIXED.make();
            for (Due.Call call : refused(x)) {
                Due.is("a call is refused", Due.thrownBy(call).equals("nothing"), false);
            }
            Due.isText("the state", Probe.of(x), Probe.of(Start.MIXED.make()));
        });
        says("questions change nothing", () -> {
            Seepwork x = Start.MIXED.make();
            for (Due.Call call : questions(x)) {
                Due.isText("a question throws", Due.thrownBy(call), "nothing");
            }
            Due.isText("the state", Probe.of(x), Probe.of(Start.MIXED.make()));
        });
        says("there is no such SITE, BOND or FIBRE", () -> {
            Seepwork x = new Seepwork();
            for (int site : new int[] {-1, 36}) {
                throwsOne(IndexOutOfBoundsException.class, "site(" + site + ", 0)", () -> x.site(site, 0));
            }
            for (int bond : new int[] {-1, 60}) {
                throwsOne(IndexOutOfBoundsException.class, "bond(" + bond + ", 0)", () -> x.bond(bond, 0));
            }
            for (int fibre : new int[] {-1, 12}) {
                throwsOne(IndexOutOfBoundsException.class, "fibre(" + fibre + ", 1)", () -> x.fibre(fibre, 1));
            }
        });
    }

    private static void theFirstOneIsThrown() {
        Seepwork x = new Seepwork();
        x.shut(3, true);
        Class<IndexOutOfBoundsException> index = IndexOutOfBoundsException.class;
        throwsOne(index, "bond(60, 1000)", () -> x.bond(60, 1000));
        throwsOne(index, "site(36, 1000)", () -> x.site(36, 1000));
        throwsOne(index, "numberOf(3, 60)", () -> x.numberOf(3, 60));
        throwsOne(index, "cluster(3, 1001, 36)", () -> x.cluster(3, 1001, 36));
        throwsOne(index, "ball(36, 60001)", () -> x.ball(36, 60001));
        throwsOne(index, "rival(36, 36, 0)", () -> x.rival(36, 36, 0));
        throwsOne(index, "rival(1, 1, 36)", () -> x.rival(1, 1, 36));
        throwsOne(index, "invade(36, 36)", () -> x.invade(36, 36));
        throwsOne(index, "invaded(36, 36)", () -> x.invaded(36, 36));
        throwsOne(index, "fibre(12, 0)", () -> x.fibre(12, 0));
        Class<IllegalArgumentException> argument = IllegalArgumentException.class;
        throwsOne(argument, "invade(3, 36), where 3 is SHUT", () -> x.invade(3, 36));
        throwsOne(argument, "invaded(3, -1), where 3 is SHUT", () -> x.invaded(3, -1));
        throwsOne(argument, "measure(3, 0) by an empty NAME", () -> x.measure(3, 0));
        throwsOne(argument, "measure(0, 1001) by an empty NAME", () -> x.measure(0, 1001));
        Start.typeName(x, "abcdefgh");
        throwsOne(argument, "type(96) behind 8 letters", () -> x.type(96));
    }

    /** 7 is SHUT, and the NAME is cut. */
    private static List<Due.Call> refused(Seepwork x) {
        return List.of(() -> x.seed(65536), () -> x.bond(0, 1000), () -> x.bond(60, 0), () -> x.site(0, -1),
                () -> x.site(36, 0), () -> x.shut(36, true), () -> x.strike(37), () -> x.wet(7, true),
                () -> x.wet(36, true), () -> x.grow(0), () -> x.grow(201), () -> x.lightning(36),
                () -> x.fibre(0, 0), () -> x.fibre(12, 1), () -> x.drain(1001), () -> x.drain(-1),
                () -> x.soak(1001), () -> x.soak(-1), () -> x.type(123), () -> x.type(96));
    }

    private static List<Due.Call> questions(Seepwork x) {
        List<Due.Call> calls = new ArrayList<>();
        calls.addAll(List.of(() -> x.numberOf(BOTH, 3), () -> x.cluster(BOTH, 600, 3), () -> x.sizes(BONDS, 600, 2),
                () -> x.spans(SITES, 600, true), () -> x.edge(BOTH, false), () -> x.edgeAnew(BOTH, true),
                () -> x.ways(BONDS, 900), () -> x.cut(BONDS, 900), () -> x.red(BONDS, 700),
                () -> x.shortest(BONDS, 900)));
        calls.addAll(List.of(() -> x.polynomial(3, 3, 5), () -> x.chance(2, 3, 5), () -> x.pivots(3, 2, 3),
                () -> x.time(0, 34), () -> x.ball(0, 999), () -> x.rival(0, 34, 20), () -> x.invade(0, 9),
                () -> x.invaded(0, 9), () -> x.filled(1, 1), () -> x.leastWet(3, 3, 2)));
        calls.addAll(List.of(() -> x.load(900, true), () -> x.load(900, false), () -> x.lastStraw(true),
                () -> x.lastStraw(false), () -> x.trapped(true), () -> x.trapped(false), () -> x.scale(600, 4),
                () -> x.estimate(BOTH, 900, 30), () -> x.measure(BONDS, 800), () -> x.count(3)));
        return calls;
    }

    // ---- SITES, BONDS

    private static void placesOfSites() {
        says("There are the SITES 0 to 35 in six rows of six: the SITE 6 times the row and the column, together.", () -> {
            Sentences.takes(0, 35, (x, site) -> x.site(site, 5));
            Sentences.refuses(IndexOutOfBoundsException.class, 0, 35, (x, site) -> x.site(site, 5));
        });
        says("The left column is 0, the right one 5", () -> {
            Due.is("spans across by a row", withOnly(12, 13, 14, 15, 16, 17).spans(SITES, 1, false), true);
            Due.is("spans across without its 0", withOnly(13, 14, 15, 16, 17).spans(SITES, 1, false), false);
            Due.is("spans across without its 5", withOnly(12, 13, 14, 15, 16).spans(SITES, 1, false), false);
        });
        says("the top row is 0, the bottom one 5", () -> {
            Due.is("spans down by a column", withOnly(2, 8, 14, 20, 26, 32).spans(SITES, 1, true), true);
            Due.is("spans down without its 0", withOnly(8, 14, 20, 26, 32).spans(SITES, 1, true), false);
            Due.is("spans down without its 5", withOnly(2, 8, 14, 20, 26).spans(SITES, 1, true), false);
        });
        says("SITES next to one another in a row, or in a column, are beside one another, and joined by a BOND", () -> {
            Due.is("time(14, 15)", withOnly(14, 15).time(14, 15), 1);
            Due.is("time(14, 20)", withOnly(14, 20).time(14, 20), 1);
            Due.is("time(14, 21), at a corner", withOnly(14, 21).time(14, 21), NONE);
            Due.is("time(5, 6), at the ends of two rows", withOnly(5, 6).time(5, 6), NONE);
            Due.is("time(29, 30), at the ends of two rows", withOnly(29, 30).time(29, 30), NONE);
            Due.is("time(0, 30), at the ends of a column", withOnly(0, 30).time(0, 30), NONE);
            Due.is("time(30, 35), at the ends of a row", withOnly(30, 35).time(30, 35), NONE);
        });
        says("the BOND 5 times the row r and the column c, together, from the column c of the row r to the next column",
                () -> {
            bondJoins(0, 0, 1);
            bondJoins(4, 4, 5);
            bondJoins(5, 6, 7);
            bondJoins(29, 34, 35);
        });
        says("the BOND 30 and 6 times r and c, together, from the row r of the column c to the next row", () -> {
            bondJoins(30, 0, 6);
            bondJoins(35, 5, 11);
            bondJoins(36, 6, 12);
            bondJoins(59, 29, 35);
        });
        says("So there are the BONDS 0 to 59.", () -> {
            Sentences.takes(0, 59, (x, bond) -> x.bond(bond, 5));
            Sentences.refuses(IndexOutOfBoundsException.class, 0, 59, (x, bond) -> x.bond(bond, 5));
        });
    }

    /** This BOND alone is OPEN, so these two SITES alone are in one CLUSTER. */
    private static void bondJoins(int bond, int low, int high) {
        Seepwork x = withBonds(500);
        x.bond(bond, 499);
        Due.is("sizes(BONDS, 500, 0) by the BOND " + bond, x.sizes(BONDS, 500, 0), 35);
        Due.is("cluster(BONDS, 500, " + high + ")", x.cluster(BONDS, 500, high), low);
        Due.is("cluster(BONDS, 500, " + low + ")", x.cluster(BONDS, 500, low), low);
    }

    private static void numbersAndSeeds() {
        says("Each SITE and BOND has a NUMBER, 0 to 999, 0 at first.", () -> {
            Sentences.takes(0, 999, (x, number) -> Due.is("bond(7, ..)", x.bond(7, number), 0));
            Sentences.takes(0, 999, (x, number) -> Due.is("site(7, ..)", x.site(7, number), 0));
            Sentences.refuses(IllegalArgumentException.class, 0, 999, (x, number) -> x.bond(7, number));
            Sentences.refuses(IllegalArgumentException.class, 0, 999, (x, number) -> x.site(7, number));
        });
        says("A seed z, 0 to 65535, draws all NUMBERS", () -> {
            for (int seed : new int[] {0, 65535}) {
                Seepwork x = withBonds(999);
                x.seed(seed);
                long z = (25173L * seed + 13849L) % 65536L;
                Due.is("bond(0, 0) by " + seed, x.bond(0, 0), z % 1000);
            }
        });
        says("of the BONDS from 0 on, then of the SITES from 0 on", () -> {
            Seepwork x = new Seepwork();
            x.seed(3);
            long z = 3;
            for (int i = 0; i < 96; i++) {
                z = (25173L * z + 13849L) % 65536L;
                int number = i < 60 ? x.bond(i, 0) : x.site(i - 60, 0);
                Due.is("the draw " + i, number, z % 1000);
            }
        });
        says("z becomes (25173 times z, and 13849) modulo 65536, and z modulo 1000 is the NUMBER", () -> {
            // 3 makes 89368, and so 23832, which makes 599936585, and so 18889.
            Seepwork x = new Seepwork();
            x.seed(3);
            Due.is("bond(0, 0)", x.bond(0, 0), 832);
            Due.is("bond(1, 0)", x.bond(1, 0), (25173 * 23832 + 13849) % 65536 % 1000);
        });
        says("All else stays as it is.", () -> {
            Seepwork x = Start.MIXED.make();
            x.seed(65535);
            Seepwork y = Start.MIXED.make();
            Seepwork drawn = new Seepwork();
            drawn.seed(65535);
            for (int bond = 0; bond < 60; bond++) {
                y.bond(bond, drawn.numberOf(BONDS, bond));
            }
            for (int site = 0; site < 36; site++) {
                y.site(site, drawn.site(site, 0));
            }
            Due.isText("the state", Probe.of(x), Probe.of(y));
        });
    }

    private static void shutSites() {
        says("A SITE may be SHUT; none is at first.", () -> {
            for (int site = 0; site < 36; site++) {
                Due.is("shut(" + site + ", true)", new Seepwork().shut(site, true), false);
            }
            Due.is("count(0)", new Seepwork().count(0), 0);
        });
        says("A SITE that becomes SHUT has no TREE", () -> {
            Seepwork x = Start.FULL.make();
            x.shut(20, true);
            Due.is("count(1)", x.count(1), 35);
            x.shut(20, false);
            Due.is("count(1), open again", x.count(1), 35);
            Due.is("lightning(20), open again", x.lightning(20), 0);
        });
        says("is not WET", () -> {
            Seepwork x = Start.FULL.make();
            x.shut(20, true);
            Due.is("count(2)", x.count(2), 35);
            x.shut(20, false);
            Due.is("wet(20, false), open again", x.wet(20, false), false);
        });
        says("has water", () -> {
            Seepwork x = Start.FULL.make();
            x.shut(20, true);
            Due.is("count(3)", x.count(3), 35);
            x.shut(20, false);
            Due.is("count(3), open again", x.count(3), 35);
            Due.is("trapped(false), open again", x.trapped(false), 1);
        });
        says("nothing grows or goes there", () -> {
            Seepwork x = new Seepwork();
            x.shut(25, true);
            x.wet(24, true);
            Due.is("grow(1), which draws 25", x.grow(1), 0);
            Due.is("filled(1, 0)", x.filled(1, 0), 35);
            Due.is("drain(1)", x.drain(1), 35);
            Due.is("invade(24, 35)", x.invade(24, 35), NONE);
            Due.is("ball(24, 60000)", x.ball(24, 60000), 35);
        });
        says("nothing leads over it", () -> {
            Seepwork x = withOnly(18, 19, 20, 22, 23);
            Due.is("spans()", x.spans(BONDS, 1000, false), false);
            Due.is("edge()", x.edge(BONDS, false), NONE);
            Due.is("edgeAnew()", x.edgeAnew(BONDS, false), NONE);
            Due.is("ways()", x.ways(BONDS, 1000), 0);
            Due.is("time(18, 23)", x.time(18, 23), NONE);
            Due.is("drain(1)", x.drain(1), 0);
            Due.is("trapped(false)", x.trapped(false), 3);
        });
        says("until it is not SHUT any more", () -> {
            Seepwork x = withOnly(18, 19, 20, 22, 23);
            x.shut(21, false);
            Due.is("spans()", x.spans(BONDS, 1000, false), true);
            Due.is("edge()", x.edge(BONDS, false), 1);
            Due.is("edgeAnew()", x.edgeAnew(BONDS, false), 1);
            Due.is("ways()", x.ways(BONDS, 1000), 1);
            Due.is("time(18, 23)", x.time(18, 23), 5);
            Due.is("drain(1)", x.drain(1), 6);
        });
    }

    // ---- thresholds

    private static void openOnes() {
        says("There are the KINDS BONDS, SITES and BOTH.", () -> {
            Sentences.takes(0, 2, (x, kind) -> x.edge(kind, true));
            Sentences.refuses(IllegalArgumentException.class, 0, 2, (x, kind) -> x.edge(kind, true));
        });
        says("At a threshold p, 0 to 1000", () -> {
            Sentences.takes(0, 1000, (x, p) -> x.spans(BONDS, p, true));
            Sentences.refuses(IllegalArgumentException.class, 0, 1000, (x, p) -> x.spans(BONDS, p, true));
        });
        says("a SITE is OPEN, if it is not SHUT, and, by the KINDS SITES and BOTH, its NUMBER is below p", () -> {
            Seepwork x = withSites(999);
            x.site(8, 500);
            for (int kind : new int[] {SITES, BOTH}) {
                Due.is("cluster(" + kind + ", 500, 8)", x.cluster(kind, 500, 8), NONE);
                Due.is("cluster(" + kind + ", 501, 8)", x.cluster(kind, 501, 8), 8);
            }
            Due.is("sizes(BONDS, 0, 0), whatever the NUMBERS of SITES", x.sizes(BONDS, 0, 0), 36);
            x.shut(8, true);
            for (int kind = 0; kind <= 2; kind++) {
                Due.is("cluster(" + kind + ", 1000, 8), where it is SHUT", x.cluster(kind, 1000, 8), NONE);
            }
        });
        says("A BOND is OPEN, if both of its SITES are", () -> {
            Seepwork x = withOnly(14, 15);
            x.site(15, 500);
            for (int kind : new int[] {SITES, BOTH}) {
                Due.is("sizes(" + kind + ", 500, 1)", x.sizes(kind, 500, 1), 1);
                Due.is("sizes(" + kind + ", 501, 1)", x.sizes(kind, 501, 1), 2);
            }
            Due.is("sizes(BONDS, 1, 1)", x.sizes(BONDS, 1, 1), 2);
        });
        says("by the KINDS BONDS and BOTH, its NUMBER is below p", () -> {
            Seepwork x = withOnly(14, 15);
            // 12 joins 14 and 15.
            x.bond(12, 500);
            for (int kind : new int[] {BONDS, BOTH}) {
                Due.is("sizes(" + kind + ", 500, 1)", x.sizes(kind, 500, 1), 1);
                Due.is("sizes(" + kind + ", 501, 1)", x.sizes(kind, 501, 1), 2);
            }
            Due.is("sizes(SITES, 1, 1)", x.sizes(SITES, 1, 1), 2);
        });
    }

    private static void waysAndClusters() {
        says("A way is a row of OPEN BONDS, each of which begins where the one ahead of it ends.", () -> {
            Seepwork x = withBonds(500);
            for (int bond = 0; bond < 5; bond++) {
                x.bond(bond, 0);
            }
            Due.is("shortest(BONDS, 1)", x.shortest(BONDS, 1), 5);
            // 0 to 2 in the top row, 2 to 5 in the next one, and no BOND from one to the other.
            x.bond(2, 500);
            x.bond(8, 0);
            x.bond(9, 0);
            x.bond(7, 0);
            Due.is("shortest(BONDS, 1) with a gap", x.shortest(BONDS, 1), NONE);
            x.bond(32, 0);
            Due.is("shortest(BONDS, 1) over 2 to 8", x.shortest(BONDS, 1), 6);
        });
        says("OPEN SITES with a way from one to the other are in one CLUSTER", () -> {
            Seepwork x = withOnly(0, 1, 2, 8, 14);
            Due.is("sizes(BONDS, 1, 0)", x.sizes(BONDS, 1, 0), 1);
            Due.is("sizes(BONDS, 1, 1)", x.sizes(BONDS, 1, 1), 5);
            Due.is("cluster(BONDS, 1, 14)", x.cluster(BONDS, 1, 14), 0);
        });
        says("one with no way to any other is one by itself", () -> {
            Seepwork x = withOnly(0, 1, 14, 35);
            Due.is("sizes(BONDS, 1, 0)", x.sizes(BONDS, 1, 0), 3);
            Due.is("sizes(BONDS, 1, 2)", x.sizes(BONDS, 1, 2), 4 + 1 + 1);
            Due.is("cluster(BONDS, 1, 14)", x.cluster(BONDS, 1, 14), 14);
            Due.is("cluster(BONDS, 0, 1)", x.cluster(BONDS, 0, 1), 1);
        });
        says("There is a span across, if a way leads from the left column to the right one", () -> {
            // From the top at the left down to the bottom at the right.
            Seepwork x = withOnly(0, 1, 2, 8, 14, 20, 21, 27, 33, 34, 35);
            Due.is("spans across", x.spans(SITES, 1, false), true);
            x.shut(20, true);
            Due.is("spans across, with a gap", x.spans(SITES, 1, false), false);
        });
        says("a span down, if one leads from the top row to the bottom one", () -> {
            Seepwork x = withOnly(2, 8, 14, 20, 21, 27, 33);
            Due.is("spans down", x.spans(SITES, 1, true), true);
            Due.is("spans across", x.spans(SITES, 1, false), false);
            x.shut(20, true);
            Due.is("spans down, with a gap", x.spans(SITES, 1, true), false);
        });
        says("The EDGE is the least threshold at which there is one.", () -> {
            for (int seed = 0; seed < 40; seed++) {
                Seepwork x = new Seepwork();
                x.seed(seed);
                for (int kind = 0; kind <= 2; kind++) {
                    int edge = x.edge(kind, seed % 2 == 0);
                    Due.is("edgeAnew()", x.edgeAnew(kind, seed % 2 == 0), edge);
                    Due.is("spans() at the EDGE", x.spans(kind, edge, seed % 2 == 0), true);
                    Due.is("spans() below the EDGE", x.spans(kind, edge - 1, seed % 2 == 0), false);
                }
            }
        });
    }

    // ---- BLOCKS

    private static void blocks() {
        says("A BLOCK has w columns and h rows of places of its own, 1 to 4 each", () -> {
            Sentences.takes(1, 4, (x, w) -> x.polynomial(w, 1, 0));
            Sentences.takes(1, 4, (x, h) -> x.polynomial(1, h, 0));
            Sentences.refuses(IllegalArgumentException.class, 1, 4, (x, w) -> x.polynomial(w, 1, 0));
            Sentences.refuses(IllegalArgumentException.class, 1, 4, (x, h) -> x.polynomial(1, h, 0));
            // They are none of the SITES, so it is all the same which of these are SHUT.
            Due.is("polynomial(2, 2, 1)", withOnly().polynomial(2, 2, 1), 2);
            Due.is("leastWet(2, 2, 2)", withOnly().leastWet(2, 2, 2), 2);
        });
        says("those next to one another in a row or a column are joined by BONDS of its own", () -> {
            // 4 along the rows and 4 along the columns of 3 by 2 are 7 in all, and so are those of 2 by 3.
            Due.is("polynomial(3, 2, 7)", new Seepwork().polynomial(3, 2, 7), 1);
            Due.is("polynomial(2, 3, 7)", new Seepwork().polynomial(2, 3, 7), 1);
            throwsOne(IllegalArgumentException.class, "polynomial(3, 2, 8)",
                    () -> new Seepwork().polynomial(3, 2, 8));
        });
        says("A set of these spans it, if by them a place of its left column is joined to one of its right column", () -> {
            Due.is("polynomial(2, 1, 0)", new Seepwork().polynomial(2, 1, 0), 0);
            Due.is("polynomial(2, 1, 1)", new Seepwork().polynomial(2, 1, 1), 1);
            Due.is("polynomial(3, 1, 1)", new Seepwork().polynomial(3, 1, 1), 0);
            Due.is("polynomial(3, 1, 2)", new Seepwork().polynomial(3, 1, 2), 1);
        });
        says("or is one", () -> {
            Due.is("polynomial(1, 1, 0)", new Seepwork().polynomial(1, 1, 0), 1);
            Due.is("polynomial(1, 4, 0)", new Seepwork().polynomial(1, 4, 0), 1);
            Due.is("pivots(1, 4, 0)", new Seepwork().pivots(1, 4, 0), 0);
            Due.is("chance(1, 4, 0)", new Seepwork().chance(1, 4, 0), 1000);
        });
    }

    // ---- times

    private static void times() {
        says("To go over a BOND whose SITES both are not SHUT takes as much as its NUMBER and 1, together.", () -> {
            Seepwork x = withOnly(14, 15);
            Due.is("time(14, 15)", x.time(14, 15), 1);
            x.site(14, 500);
            x.site(15, 999);
            Due.is("time(14, 15), as NUMBERS of SITES do not count", x.time(14, 15), 1);
            x.bond(12, 999);
            Due.is("time(14, 15)", x.time(14, 15), 1000);
            Due.is("time(15, 14)", x.time(15, 14), 1000);
            x.shut(15, true);
            Due.is("time(14, 15), where one is SHUT", x.time(14, 15), NONE);
        });
        says("The time from a SITE to another one is the least sum over all ways of such BONDS", () -> {
            Seepwork x = withOnly(14, 15, 20, 21);
            // 12 joins 14 and 15 at once; around by 44, 17 and 45 it takes 3.
            x.bond(12, 1);
            Due.is("time(14, 15) at once", x.time(14, 15), 2);
            x.bond(12, 3);
            Due.is("time(14, 15) around", x.time(14, 15), 3);
        });
        says("to itself 0", () -> Due.is("time(14, 14)", withBonds(999).time(14, 14), 0));
        says("to and from SHUT ones there is none, to themselves neither", () -> {
            Seepwork x = new Seepwork();
            x.shut(14, true);
            Due.is("time(13, 14)", x.time(13, 14), NONE);
            Due.is("time(14, 13)", x.time(14, 13), NONE);
            Due.is("time(14, 14)", x.time(14, 14), NONE);
            Due.is("time(13, 15), around it", x.time(13, 15), 4);
        });
    }

    private static void invasion() {
        says("By invasion from a SITE, that is there first", () -> {
            Due.is("invade(14, 0)", withBonds(999).invade(14, 0), 14);
            Due.is("invade(14, 0), where it is alone", withOnly(14).invade(14, 0), 14);
            Due.is("invade(14, 1), where it is alone", withOnly(14).invade(14, 1), NONE);
        });
        says("the SITE comes to which a BOND leads from one that is there, with the least NUMBER of all such BONDS", () -> {
            Seepwork x = withBonds(500);
            x.bond(44, 499);
            // A lower NUMBER farther away does not count until it can be reached: 17 joins 20 and 21.
            x.bond(17, 3);
            Due.is("invade(14, 1)", x.invade(14, 1), 20);
            Due.is("invade(14, 2)", x.invade(14, 2), 21);
        });
        says("of several the lowest BOND", () -> {
            // From 14 lead the BONDS 11 to 13, 12 to 15, 38 up to 8, and 44 down to 20.
            Seepwork x = withBonds(7);
            Due.is("invade(14, 1)", x.invade(14, 1), 13);
            x.bond(11, 8);
            Due.is("invade(14, 1), where 11 is not the least", x.invade(14, 1), 15);
            x.bond(12, 8);
            Due.is("invade(14, 1), where 12 is not the least either", x.invade(14, 1), 8);
            x.bond(38, 8);
            Due.is("invade(14, 1), where 44 is the least", x.invade(14, 1), 20);
        });
        says("SHUT ones do not come", () -> {
            Seepwork x = withBonds(7);
            x.shut(13, true);
            Due.is("invade(14, 1)", x.invade(14, 1), 15);
            Due.is("invade(14, 34) is one", x.invade(14, 34) != NONE, true);
            Due.is("invade(14, 35)", x.invade(14, 35), NONE);
        });
    }

    // ---- wet ones, woods

    private static void wetOnes() {
        says("SITES may be WET.", () -> {
            Sentences.takes(0, 35, (x, site) -> Due.is("wet(.., true)", x.wet(site, true), false));
            Due.is("count(2) of a new one", new Seepwork().count(2), 0);
        });
        says("in each round all SITES that are neither WET nor SHUT, and have k or more WET ones beside them", () -> {
            Seepwork x = withOnly(14, 8, 13, 15, 20);
            for (int k = 1; k <= 4; k++) {
                x.wet(new int[] {8, 13, 15, 20}[k - 1], true);
                Due.is("filled(" + k + ", 0) by as many", x.filled(k, 0), k == 1 ? 5 : k + 1);
                Due.is("filled(" + Math.min(4, k + 1) + ", 0)", x.filled(Math.min(4, k + 1), 0), k == 4 ? 5 : k);
            }
        });
        says("become WET together", () -> {
            // In a row of six with WET ends two join in each round, so two rounds are enough for four.
            Seepwork x = withOnly(0, 1, 2, 3, 4, 5);
            x.wet(0, true);
            x.wet(5, true);
            Due.is("filled(1, 1)", x.filled(1, 1), 2);
            x.wet(5, false);
            Due.is("filled(1, 1), from one end", x.filled(1, 1), 5);
        });
        says("until there is no such one", () -> {
            Seepwork x = new Seepwork();
            Due.is("filled(1, 0), where none is WET", x.filled(1, 0), 0);
            Due.is("filled(1, 1), where none is WET", x.filled(1, 1), 0);
            x.wet(0, true);
            Due.is("filled(1, 0), where all become so", x.filled(1, 0), 36);
            Due.is("filled(2, 0), where none becomes so", x.filled(2, 0), 1);
            Due.is("filled(2, 1), where none becomes so", x.filled(2, 1), 0);
        });
    }

    private static void trees() {
        says("TREES stand on SITES.", () -> Due.is("count(1), where all are full", Start.FULL.make().count(1), 36));
        says("There is a draw d, 0 at first, that becomes (25173 times d, and 13849) modulo 65536 each time", () -> {
            // 13849 is the first draw, and falls on 25; the second one is 53782, and falls on 34.
            Seepwork x = new Seepwork();
            x.grow(1);
            Due.is("lightning(25)", x.lightning(25), 1);
            x.grow(1);
            Due.is("lightning(" + (25173 * 13849 + 13849) % 65536 % 36 + ")",
                    x.lightning((25173 * 13849 + 13849) % 65536 % 36), 1);
        });
        says("then a TREE stands on the SITE d modulo 36, if that is not SHUT", () -> {
            Seepwork x = new Seepwork();
            x.shut(25, true);
            Due.is("grow(1)", x.grow(1), 0);
            Due.is("grow(1), as the draw has gone on", x.grow(1), 1);
            Due.is("lightning(34)", x.lightning(34), 1);
        });
        says("(one that stands there already stays)", () -> {
            Seepwork x = Start.FULL.make();
            Due.is("grow(200)", x.grow(200), 36);
            Due.is("lightning(0)", x.lightning(0), 36);
        });
        says("Lightning at a TREE burns it, and all TREES beside one that burns.", () -> {
            Seepwork x = Start.FULL.make();
            // A ring of SITES without TREES around 14, and 14 beside none of the others.
            for (int site : new int[] {8, 13, 15, 20}) {
                x.shut(site, true);
            }
            Due.is("lightning(14)", x.lightning(14), 1);
            Due.is("lightning(14) again", x.lightning(14), 0);
            Due.is("lightning(0)", x.lightning(0), 31);
            Due.is("count(1)", x.count(1), 0);
        });
    }

    // ---- FIBRES

    private static void ring() {
        says("There are the FIBRES 0 to 11 in a ring", () -> {
            Sentences.takes(0, 11, (x, fibre) -> x.fibre(fibre, 5));
            Sentences.refuses(IndexOutOfBoundsException.class, 0, 11, (x, fibre) -> x.fibre(fibre, 5));
        });
        says("11 beside 0", () -> {
            // 0 breaks by 5, and 2 go to 11.
            Seepwork x = withStrengths(99);
            x.fibre(0, 4);
            x.fibre(11, 7);
            Due.is("load(60, true)", x.load(60, true), 1);
            x.fibre(11, 6);
            Due.is("load(60, true), where 11 breaks by 7", x.load(60, true), 2);
        });
        says("each with a STRENGTH, 1 to 1000, 100 at first", () -> {
            Sentences.takes(1, 1000, (x, strength) -> Due.is("fibre(3, ..)", x.fibre(3, strength), 100));
            Sentences.refuses(IllegalArgumentException.class, 1, 1000, (x, strength) -> x.fibre(3, strength));
        });
        says("A load is tried with all of them whole.", () -> {
            Seepwork x = new Seepwork();
            for (boolean isLocal : new boolean[] {false, true}) {
                Due.is("load(20000, " + isLocal + ")", x.load(20000, isLocal), 12);
                Due.is("load(1211, " + isLocal + ") behind it", x.load(1211, isLocal), 0);
            }
        });
    }

    private static void evenly() {
        says("Evenly: each whole one bears the load divided by how many are whole", () -> {
            Seepwork x = withStrengths(1000);
            x.fibre(0, 1);
            // By 24 each bears 2, and 0 breaks; 11 bear 1091 by 12011.
            Due.is("load(23, false)", x.load(23, false), 0);
            Due.is("load(24, false)", x.load(24, false), 1);
            Due.is("load(11010, false), 1000 each", x.load(11010, false), 1);
            Due.is("load(11011, false), 1001 each", x.load(11011, false), 12);
        });
        says("all that bear more than their STRENGTH break together", () -> {
            Seepwork x = withStrengths(5);
            Due.is("load(71, false), 5 each", x.load(71, false), 0);
            Due.is("load(72, false), 6 each", x.load(72, false), 12);
        });
        says("this again with those that are whole then, until none breaks, or none is whole", () -> {
            // 12 bear 10 by 120, 11 bear 10, 10 bear 12, and so on: each STRENGTH is a step.
            Seepwork x = withStrengths(1000);
            x.fibre(0, 9);
            x.fibre(1, 10);
            x.fibre(2, 11);
            Due.is("load(120, false): 0 breaks, 11 bear 10", x.load(120, false), 1);
            Due.is("load(121, false): 1 breaks by 11, 10 bear 12, 9 bear 13", x.load(121, false), 3);
            Due.is("load(20000, false), where none is whole", x.load(20000, false), 12);
        });
    }

    private static void byNeighbours() {
        says("By neighbours: each bears the load divided by 12, what is left over being borne by none", () -> {
            Seepwork x = withStrengths(5);
            Due.is("load(71, true), 5 each and 11 over", x.load(71, true), 0);
            Due.is("load(72, true), 6 each", x.load(72, true), 12);
        });
        says("then for each of those that broke now, by rising numbers, half of what it bore goes to the next one at lower "
                + "numbers around the ring that is whole then", () -> {
            // 5 and 6 break by 7 each; 3 of each go down past the other to 4, which bears 13.
            Seepwork x = withStrengths(99);
            x.fibre(5, 6);
            x.fibre(6, 6);
            x.fibre(4, 13);
            Due.is("load(84, true)", x.load(84, true), 2);
            x.fibre(4, 12);
            Due.is("load(84, true), where 4 breaks by 13", x.load(84, true), 3);
        });
        says("what is left of that to the next whole one at higher numbers", () -> {
            // 4 of each go up to 7, which bears 15.
            Seepwork x = withStrengths(99);
            x.fibre(5, 6);
            x.fibre(6, 6);
            x.fibre(7, 15);
            Due.is("load(84, true)", x.load(84, true), 2);
            x.fibre(7, 14);
            Due.is("load(84, true), where 7 breaks by 15", x.load(84, true), 3);
        });
        says("which may be the same", () -> {
            // All but 3 break by 5 each, and it bears all of the 60 in the end.
            Seepwork x = withStrengths(4);
            x.fibre(3, 60);
            Due.is("load(60, true)", x.load(60, true), 11);
            x.fibre(3, 59);
            Due.is("load(60, true), where 3 breaks by 60", x.load(60, true), 12);
        });
        says("this again, until none breaks, or none is whole", () -> {
            Seepwork x = withStrengths(1000);
            Due.is("load(12011, true), where none breaks", x.load(12011, true), 0);
            Due.is("load(12012, true), where none is whole", x.load(12012, true), 12);
            // By 5 each 0 breaks; 11 by 7, and 3 of these go to 10, which breaks by 8; 4 go to 9, which holds 9.
            x.fibre(0, 4);
            x.fibre(11, 6);
            x.fibre(10, 7);
            x.fibre(9, 9);
            Due.is("load(60, true), one after another", x.load(60, true), 3);
        });
    }

    // ---- oil and water

    private static void whatHangs() {
        says("Each SITE has water at first, or oil.", () -> {
            Due.is("count(3)", new Seepwork().count(3), 0);
            Due.is("count(3), where all are full", Start.FULL.make().count(3), 36);
        });
        says("Oil at a SITE hangs on the left, if SITES with oil, not SHUT, lead from it to the left column", () -> {
            Seepwork x = withOnly(6, 7, 8, 9, 10, 11);
            x.drain(1);
            Due.is("trapped(true)", x.trapped(true), 0);
            x.shut(8, true);
            Due.is("trapped(true), behind a SHUT one", x.trapped(true), 3);
            x.shut(8, false);
            Due.is("trapped(true), behind one with water", x.trapped(true), 3);
        });
        says("one beside the other, itself with them", () -> {
            // 0 is in the left column itself; 7 is but at its corner, and all others are beyond.
            Seepwork x = withOnly(0, 1, 2, 3, 4, 5, 6, 7, 8, 9, 10, 11);
            Due.is("drain(1)", x.drain(1), 12);
            x.shut(1, true);
            x.shut(6, true);
            Due.is("trapped(true)", x.trapped(true), 9);
        });
        says("water hangs on the right, if SITES with water, not SHUT, lead from it to the right column likewise", () -> {
            Seepwork x = withOnly(6, 7, 8, 9, 10, 11);
            Due.is("trapped(false)", x.trapped(false), 0);
            x.shut(9, true);
            Due.is("trapped(false), behind a SHUT one", x.trapped(false), 3);
            x.shut(11, true);
            Due.is("trapped(false), all of it", x.trapped(false), 4);
        });
        says("What does not hang so is trapped.", () -> {
            Seepwork x = withOnly(14, 11);
            Due.is("trapped(false), 14", x.trapped(false), 1);
            Due.is("trapped(true)", x.trapped(true), 0);
        });
    }

    private static void drainage() {
        says("To drain by a pressure: as long as there is such a one, the lowest SITE gets oil that is not SHUT", () -> {
            Due.is("drain(1)", new Seepwork().drain(1), 36);
            Due.is("drain(1), where all are SHUT", withOnly().drain(1), 0);
        });
        says("has water that hangs on the right", () -> {
            Seepwork x = withOnly(6, 7, 8, 10, 11);
            Due.is("drain(1), where 6 to 8 are shut in", x.drain(1), 0);
            x.shut(9, false);
            Due.is("drain(1), where they are not", x.drain(1), 6);
        });
        says("a NUMBER below the pressure", () -> {
            Seepwork x = withSites(999);
            x.site(6, 500);
            Due.is("drain(500)", x.drain(500), 0);
            Due.is("drain(501)", x.drain(501), 1);
            Due.is("drain(999)", x.drain(999), 1);
            Due.is("drain(1000)", x.drain(1000), 36);
        });
        says("is in the left column or beside one whose oil hangs on the left", () -> {
            Seepwork x = withSites(500);
            x.site(7, 0);
            Due.is("drain(1), at 7 alone", x.drain(1), 0);
            x.site(0, 0);
            Due.is("drain(1), at 0 and at its corner 7", x.drain(1), 1);
            x.site(6, 0);
            Due.is("drain(1), at 0, 6 and 7", x.drain(1), 3);
            // Oil at 7 hangs no more where 6 and 1 bar it, and so does not go on to 8.
            x.shut(6, true);
            x.site(8, 0);
            Due.is("drain(1), beside trapped oil", x.drain(1), 2);
        });
        says("What hangs is found anew behind each SITE that changes.", () -> {
            // 12 hangs over 6 alone; 6 gets oil first, and so 12 is trapped.
            Seepwork x = withOnly(6, 7, 8, 9, 10, 11, 12);
            Due.is("drain(1)", x.drain(1), 6);
            Due.is("trapped(false)", x.trapped(false), 1);
            // The same at the right: 17 hangs over 11 alone, which gets water first.
            Seepwork y = withOnly(6, 7, 8, 9, 10, 11, 17);
            Due.is("drain(1)", y.drain(1), 7);
            Due.is("soak(0)", y.soak(0), 1);
            Due.is("trapped(true)", y.trapped(true), 1);
        });
    }

    private static void soaking() {
        says("To soak by a pressure: as long as there is such a one, the lowest SITE gets water that is not SHUT", () -> {
            Seepwork x = withOnly(6, 7, 8, 9, 10, 11);
            Due.is("soak(0), where none has oil", x.soak(0), 0);
            x.drain(1);
            Due.is("soak(0), where all have oil", x.soak(0), 0);
        });
        says("has oil that hangs on the left", () -> {
            Seepwork x = withOnly(6, 7, 8, 9, 10, 11);
            x.drain(1);
            x.shut(8, true);
            Due.is("soak(0), where 9 to 11 are trapped", x.soak(0), 5);
        });
        says("a NUMBER that is not below the pressure", () -> {
            Seepwork x = withOnly(6, 7, 8, 9, 10, 11);
            x.site(11, 500);
            x.drain(1000);
            Due.is("soak(1000)", x.soak(1000), 6);
            Due.is("soak(501)", x.soak(501), 6);
            Due.is("soak(500)", x.soak(500), 5);
            Due.is("soak(1), as 10 is below", x.soak(1), 5);
            Due.is("soak(0)", x.soak(0), 0);
        });
        says("is in the right column or beside one whose water hangs on the right", () -> {
            Seepwork x = withOnly(6, 7, 8, 9, 10, 11);
            x.drain(1);
            x.site(9, 500);
            Due.is("soak(500), at 9 alone", x.soak(500), 6);
            x.site(11, 500);
            Due.is("soak(500), at 11 and 9", x.soak(500), 5);
            x.site(10, 500);
            Due.is("soak(500), at 11, 10 and 9", x.soak(500), 3);
        });
    }

    // ---- scale, measures

    private static void scaleAndName() {
        says("divided by 1000000000, q being 1000 less p", () -> {
            Seepwork x = new Seepwork();
            Due.is("scale(0, 1)", x.scale(0, 1), 0);
            Due.is("scale(1, 1)", x.scale(1, 1), 0);
            Due.is("scale(22, 1)", x.scale(22, 1), 0);
            Due.is("scale(23, 1)", x.scale(23, 1), 1);
            Due.is("scale(500, 1)", x.scale(500, 1), 437);
            Due.is("scale(618, 1)", x.scale(618, 1), 617);
            Due.is("scale(700, 1)", x.scale(700, 1), 739);
            Due.is("scale(999, 1)", x.scale(999, 1), 999);
            Due.is("scale(1000, 1)", x.scale(1000, 1), 1000);
        });
        says("There is a NAME of at most 8 letters, empty at first.", () -> {
            Seepwork x = new Seepwork();
            Due.is("count(4)", x.count(4), 0);
            for (int i = 1; i <= 8; i++) {
                Due.is("type('q')", x.type('q'), i);
            }
            throwsOne(IllegalStateException.class, "type('q') behind 8", () -> x.type('q'));
            Due.is("count(4)", x.count(4), 8);
        });
    }

    /** 0 to 5 are a row, and 14 and 20 are by themselves. */
    private static void measureIs(String name, int due, int dueWithGap) {
        Seepwork x = withOnly(0, 1, 2, 3, 4, 5, 14, 20);
        Start.typeName(x, name);
        Due.is("measure() by " + name, x.measure(BONDS, 1), due);
        x.shut(3, true);
        Due.is("measure() by " + name + ", with a gap", x.measure(BONDS, 1), dueWithGap);
    }

    private static void measures() {
        says("many, how many CLUSTERS there are", () -> measureIs("many", 2, 3));
        says("size, how many SITES the greatest one has", () -> measureIs("size", 6, 3));
        says("span, 1 if there is a span across and 0 if not", () -> measureIs("span", 1, 0));
        says("cut, red, and way, as the methods cut(), red() and shortest() tell", () -> {
            measureIs("cut", 1, 0);
            measureIs("red", 5, 0);
            measureIs("way", 5, NONE);
        });
    }
}
