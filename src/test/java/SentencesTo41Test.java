/** Promises 30 to 41, sentence by sentence. */
public final class SentencesTo41Test {
    private static final int NONE = Seepwork.NONE;
    private static final int BONDS = Seepwork.BONDS;
    private static final int BOTH = Seepwork.BOTH;

    private static final String KIND = "@param kind BONDS to BOTH";
    private static final String THRESHOLD = "@param p a threshold";
    private static final String PRESSURE = "@param pressure 0 to 1000";
    private static final String IS_LOCAL = "@param isLocal whether by neighbours, or evenly";
    private static final String WITH_OIL = "@return how many SITES have oil then";
    private static final String BAD_STRENGTH = "@throws IllegalArgumentException if strength is out of range";
    private static final String BAD_LOAD = "@throws IllegalArgumentException if load is out of range";
    private static final String BAD_PRESSURE = "@throws IllegalArgumentException if pressure is out of range";
    private static final String BAD_ARGUMENT = "@throws IllegalArgumentException if an argument is out of range";
    private static final String BAD_LETTER = "@throws IllegalArgumentException if letter is out of range";
    private static final String BAD_WHAT = "@throws IllegalArgumentException if what is out of range";

    private static final Sentences DOCUMENT = new Sentences();

    public static void main(String[] args) {
        fibre();
        load();
        lastStraw();
        drain();
        soak();
        trapped();
        scale();
        estimate();
        type();
        wipe();
        measure();
        count();
        DOCUMENT.end(30, 41);
    }

    private static Seepwork withStrengths(int strength) {
        Seepwork x = new Seepwork();
        for (int fibre = 0; fibre < 12; fibre++) {
            x.fibre(fibre, strength);
        }
        return x;
    }

    private static void fibre() {
        DOCUMENT.of(30, "Tells a STRENGTH.", () -> {
            Seepwork x = withStrengths(1000);
            x.fibre(11, 1);
            Due.is("load(23, false)", x.load(23, false), 0);
            Due.is("load(24, false)", x.load(24, false), 1);
        });
        DOCUMENT.index(30, "@param fibre a FIBRE", "@throws IndexOutOfBoundsException if there is no such FIBRE", 12,
                (x, fibre) -> x.fibre(fibre, 5));
        DOCUMENT.range(30, "@param strength 1 to 1000", BAD_STRENGTH, 1, 1000, (x, strength) -> x.fibre(11, strength));
        DOCUMENT.of(30, "@return what it was", () -> {
            Seepwork x = new Seepwork();
            Due.is("fibre(0, 1000), as it was at first", x.fibre(0, 1000), 100);
            Due.is("fibre(0, 1)", x.fibre(0, 1), 1000);
            Due.is("fibre(0, 1) again", x.fibre(0, 1), 1);
            Due.outOfRange(x, "fibre(0, 0)", () -> x.fibre(0, 0));
            Due.is("fibre(0, 2) behind a refused one", x.fibre(0, 2), 1);
            Due.noSuch(x, "fibre(12, 0)", () -> x.fibre(12, 0));
        });
    }

    private static void load() {
        DOCUMENT.of(31, "Tries a load.", () -> {
            Seepwork x = withStrengths(50);
            x.load(20000, true);
            x.load(20000, false);
            Due.isText("the state behind two trials", Probe.of(x), Probe.of(withStrengths(50)));
        });
        DOCUMENT.range(31, "@param load 0 to 20000", BAD_LOAD, 0, 20000, (x, load) -> x.load(load, true));
        DOCUMENT.range(31, "@param load 0 to 20000", BAD_LOAD, 0, 20000, (x, load) -> x.load(load, false));
        DOCUMENT.of(31, IS_LOCAL, () -> {
            // By 60 each bears 5, and 0 breaks: of these 2 go to 11 and 3 to 1, or all share them evenly.
            Seepwork x = withStrengths(6);
            x.fibre(0, 4);
            Due.is("load(60, false)", x.load(60, false), 1);
            Due.is("load(60, true)", x.load(60, true), 12);
        });
        DOCUMENT.of(31, "@return how many FIBRES would break", () -> {
            for (boolean isLocal : new boolean[] {false, true}) {
                Due.is("load(0, " + isLocal + ")", withStrengths(1).load(0, isLocal), 0);
                Due.is("load(23, " + isLocal + ")", withStrengths(1).load(23, isLocal), 0);
                Due.is("load(24, " + isLocal + ")", withStrengths(1).load(24, isLocal), 12);
                Due.is("load(12011, " + isLocal + ")", withStrengths(1000).load(12011, isLocal), 0);
                Due.is("load(12012, " + isLocal + ")", withStrengths(1000).load(12012, isLocal), 12);
                Due.is("load(20000, " + isLocal + ")", withStrengths(1000).load(20000, isLocal), 12);
            }
        });
    }

    private static void lastStraw() {
        DOCUMENT.of(32, "Returns the least load of all by which all FIBRES would break, less 1", () -> {
            for (boolean isLocal : new boolean[] {false, true}) {
                for (int strength : new int[] {1, 2, 99, 100, 999, 1000}) {
                    Seepwork x = withStrengths(strength);
                    int straw = x.lastStraw(isLocal);
                    Due.is("lastStraw(" + isLocal + ") by " + strength, straw, 12 * strength + 11);
                    Due.is("load() by it", x.load(straw, isLocal), 0);
                    Due.is("load() by 1 more", x.load(straw + 1, isLocal), 12);
                }
            }
        });
        DOCUMENT.of(32, "whatever greater loads would do", () -> {
            Seepwork x = new Seepwork();
            int[] strengths = {1, 4, 20, 10, 9, 18, 5, 9, 7, 5, 9, 5};
            for (int fibre = 0; fibre < 12; fibre++) {
                x.fibre(fibre, strengths[fibre]);
            }
            Due.is("load(60, true), which breaks but 3", x.load(60, true), 3);
            Due.is("load(48, true), which breaks all", x.load(48, true), 12);
            Due.is("lastStraw(true)", x.lastStraw(true), 47);
        });
        DOCUMENT.of(32, IS_LOCAL, () -> {
            // One alone is strong: evenly 1001 break it; by neighbours it bears 12 times what each bears, 84 and more.
            Seepwork x = withStrengths(1);
            x.fibre(5, 1000);
            Due.is("lastStraw(false)", x.lastStraw(false), 1000);
            Due.is("lastStraw(true)", x.lastStraw(true), 84 * 12 - 1);
        });
        DOCUMENT.of(32, "@return that load", () -> {
            Due.is("lastStraw(true), the least that there is", withStrengths(1).lastStraw(true), 23);
            Due.is("lastStraw(true), the greatest that there is", withStrengths(1000).lastStraw(true), 12011);
        });
    }

    private static Seepwork withSites(int number) {
        Seepwork x = new Seepwork();
        for (int site = 0; site < 36; site++) {
            x.site(site, number);
        }
        return x;
    }

    private static void drain() {
        DOCUMENT.of(33, "Drains.", () -> {
            Seepwork x = withSites(500);
            x.site(0, 499);
            x.site(1, 499);
            x.site(8, 499);
            Due.is("drain(500), 8 being at a corner", x.drain(500), 2);
            Due.isText("the state behind it", Probe.of(x), Probe.of(oilAt0And1()));
        });
        DOCUMENT.range(33, PRESSURE, BAD_PRESSURE, 0, 1000, (x, pressure) -> x.drain(pressure));
        DOCUMENT.of(33, WITH_OIL, () -> {
            Due.is("drain(0), as no NUMBER is below 0", new Seepwork().drain(0), 0);
            Due.is("drain(1)", new Seepwork().drain(1), 36);
            Due.is("drain(999)", withSites(999).drain(999), 0);
            Due.is("drain(1000)", withSites(999).drain(1000), 36);
            Due.is("drain(0), where all have oil", Start.FULL.make().drain(0), 36);
            Due.is("drain(1000), where all have oil", Start.FULL.make().drain(1000), 36);
            Due.is("drain(1000), where all are SHUT", Start.ALL_SHUT.make().drain(1000), 0);
        });
    }

    /** The same oil as by the draining above, brought there in two steps. */
    private static Seepwork oilAt0And1() {
        Seepwork x = withSites(500);
        x.site(0, 10);
        x.drain(11);
        x.site(1, 10);
        x.drain(11);
        x.site(0, 499);
        x.site(1, 499);
        x.site(8, 499);
        return x;
    }

    private static void soak() {
        DOCUMENT.of(34, "Soaks.", () -> {
            Seepwork x = new Seepwork();
            x.drain(1);
            x.site(35, 500);
            x.site(34, 499);
            Due.is("soak(500)", x.soak(500), 35);
            Due.is("soak(499)", x.soak(499), 34);
            Due.is("count(3)", x.count(3), 34);
        });
        DOCUMENT.range(34, PRESSURE, BAD_PRESSURE, 0, 1000, (x, pressure) -> x.soak(pressure));
        DOCUMENT.of(34, WITH_OIL, () -> {
            Due.is("soak(0), where none has oil", new Seepwork().soak(0), 0);
            Due.is("soak(1000), where all have oil", Start.FULL.make().soak(1000), 36);
            Due.is("soak(1), where all have oil", Start.FULL.make().soak(1), 36);
            Due.is("soak(0), where all have oil", Start.FULL.make().soak(0), 5);
            Due.is("soak(0), where all are SHUT", Start.ALL_SHUT.make().soak(0), 0);
        });
    }

    private static void trapped() {
        DOCUMENT.of(35, "Counts the SITES, not SHUT, at which oil, or water, is trapped.", () -> {
            Seepwork x = Start.FULL.make();
            Due.is("trapped(true), where all have oil", x.trapped(true), 0);
            Due.is("trapped(false), where all have oil", x.trapped(false), 0);
            x.shut(14, true);
            Due.is("trapped(false), where 14 is SHUT", x.trapped(false), 0);
            x.shut(14, false);
            Due.is("trapped(false), where 14 is not", x.trapped(false), 1);
            Due.is("trapped(true), where all are SHUT", Start.ALL_SHUT.make().trapped(true), 0);
            Due.is("trapped(false), where all are SHUT", Start.ALL_SHUT.make().trapped(false), 0);
        });
        DOCUMENT.of(35, "@param isOil which of both", () -> {
            Seepwork x = Start.FULL.make();
            // Behind a wall of water oil does not hang on the left, nor does that water hang on the right.
            for (int row = 0; row < 6; row++) {
                x.shut(6 * row + 1, true);
                x.shut(6 * row + 1, false);
            }
            Due.is("trapped(true)", x.trapped(true), 24);
            Due.is("trapped(false)", x.trapped(false), 6);
        });
        DOCUMENT.of(35, "@return how many", () -> {
            Seepwork x = new Seepwork();
            Due.is("trapped(true) of a new one", x.trapped(true), 0);
            Due.is("trapped(false) of a new one", x.trapped(false), 0);
            for (int row = 0; row < 6; row++) {
                x.shut(6 * row + 5, true);
            }
            Due.is("trapped(false), where the right column is SHUT", x.trapped(false), 30);
        });
    }

    private static void scale() {
        DOCUMENT.of(36, "Makes steps of scale.", () -> {
            Due.is("scale(500, 1)", new Seepwork().scale(500, 1), 437);
            Due.is("scale(500, 2)", new Seepwork().scale(500, 2), new Seepwork().scale(437, 1));
            Due.is("scale(700, 1)", new Seepwork().scale(700, 1), 739);
        });
        DOCUMENT.range(36, "@param p 0 to 1000", BAD_ARGUMENT, 0, 1000, (x, p) -> x.scale(p, 3));
        DOCUMENT.range(36, "@param n 0 to 50 steps", BAD_ARGUMENT, 0, 50, (x, n) -> x.scale(600, n));
        DOCUMENT.of(36, "@return the chance then", () -> {
            for (int n : new int[] {0, 1, 50}) {
                Due.is("scale(0, " + n + ")", new Seepwork().scale(0, n), 0);
                Due.is("scale(1000, " + n + ")", new Seepwork().scale(1000, n), 1000);
            }
            Due.is("scale(617, 0)", new Seepwork().scale(617, 0), 617);
            Due.is("scale(500, 50)", new Seepwork().scale(500, 50), 0);
            Due.is("scale(999, 50)", new Seepwork().scale(999, 50), 999);
        });
    }

    private static void estimate() {
        DOCUMENT.of(37, "Counts by how many of the seeds 1 to n there would be a span across", () -> {
            Seepwork drawn = new Seepwork();
            for (int kind = 0; kind <= 2; kind++) {
                int due = 0;
                for (int n = 1; n <= 30; n++) {
                    drawn.seed(n);
                    due += drawn.spans(kind, 610, false) ? 1 : 0;
                    Due.is("estimate(" + kind + ", 610, " + n + ")", new Seepwork().estimate(kind, 610, n), due);
                }
            }
        });
        DOCUMENT.of(37, "SHUT ones as they are", () -> {
            Seepwork x = new Seepwork();
            for (int row = 1; row < 6; row++) {
                x.shut(6 * row + 3, true);
            }
            Due.is("estimate(BONDS, 1000, 30), by the top row", x.estimate(BONDS, 1000, 30), 30);
            x.shut(3, true);
            Due.is("estimate(BONDS, 1000, 30), where it is barred", x.estimate(BONDS, 1000, 30), 0);
        });
        DOCUMENT.range(37, KIND, BAD_ARGUMENT, 0, 2, (x, kind) -> x.estimate(kind, 600, 2));
        DOCUMENT.range(37, THRESHOLD, BAD_ARGUMENT, 0, 1000, (x, p) -> x.estimate(BOTH, p, 2));
        DOCUMENT.range(37, "@param n 1 to 30", BAD_ARGUMENT, 1, 30, (x, n) -> x.estimate(BOTH, 600, n));
        DOCUMENT.of(37, "@return how many", () -> {
            for (int kind = 0; kind <= 2; kind++) {
                for (int n : new int[] {1, 30}) {
                    Due.is("estimate(" + kind + ", 0, " + n + ")", new Seepwork().estimate(kind, 0, n), 0);
                    Due.is("estimate(" + kind + ", 1000, " + n + ")", new Seepwork().estimate(kind, 1000, n), n);
                    Due.is("estimate(" + kind + ", 1000, " + n + "), where all are SHUT",
                            Start.ALL_SHUT.make().estimate(kind, 1000, n), 0);
                }
            }
        });
    }

    private static void type() {
        DOCUMENT.of(38, "Puts a letter behind the NAME.", () -> {
            Seepwork x = new Seepwork();
            for (char letter : "cut".toCharArray()) {
                Due.badState(x, "measure(0, 1) ahead of " + letter, () -> x.measure(0, 1));
                x.type(letter);
            }
            Due.is("measure(0, 1) by cut", x.measure(0, 1), 6);
            x.type('s');
            Due.badState(x, "measure(0, 1) by cuts", () -> x.measure(0, 1));
        });
        DOCUMENT.range(38, "@param letter 97 (a) to 122 (z)", BAD_LETTER, 97, 122, (x, letter) -> x.type(letter));
        DOCUMENT.of(38, "@return how many letters it has then", () -> {
            Seepwork x = new Seepwork();
            for (int i = 1; i <= 8; i++) {
                Due.is("type('z')", x.type('z'), i);
            }
            x.wipe();
            Due.is("type('a') behind wipe()", x.type('a'), 1);
        });
        DOCUMENT.of(38, "@throws IllegalStateException if it has 8", () -> {
            Seepwork x = new Seepwork();
            Start.typeName(x, "abcdefg");
            Due.is("type('h') behind 7", x.type('h'), 8);
            Due.badState(x, "type('i') behind 8", () -> x.type('i'));
            Due.badState(x, "type('i') behind 8 again", () -> x.type('i'));
            Due.outOfRange(x, "type(123) behind 8", () -> x.type(123));
            Due.is("count(4)", x.count(4), 8);
        });
    }

    private static void wipe() {
        DOCUMENT.of(39, "Makes the NAME empty.", () -> {
            Seepwork x = new Seepwork();
            Start.typeName(x, "cut");
            x.wipe();
            Due.is("count(4)", x.count(4), 0);
            Due.badState(x, "measure(0, 1)", () -> x.measure(0, 1));
            Start.typeName(x, "red");
            Due.is("measure(0, 1) by red", x.measure(0, 1), 0);
        });
        DOCUMENT.of(39, "@return how many letters it had", () -> {
            Due.is("wipe(), where it is empty", new Seepwork().wipe(), 0);
            Seepwork x = new Seepwork();
            x.type('a');
            Due.is("wipe() behind 1", x.wipe(), 1);
            Due.is("wipe() again", x.wipe(), 0);
            Due.is("wipe() behind 8", Start.FULL.make().wipe(), 8);
        });
    }

    /** The top row is joined by 100 and the bottom one by 200, all others by 900. */
    private static Seepwork named(String name) {
        Seepwork x = new Seepwork();
        for (int bond = 0; bond < 60; bond++) {
            boolean isBottom = bond >= 25 && bond < 30;
            x.bond(bond, bond < 5 ? 100 : isBottom ? 200 : 900);
        }
        Start.typeName(x, name);
        return x;
    }

    private static void measureIs(String name, int atNothing, int byOneRow, int byTwoRows, int byAll) {
        Due.is("measure(BONDS, 0) by " + name, named(name).measure(BONDS, 0), atNothing);
        Due.is("measure(BONDS, 100) by " + name, named(name).measure(BONDS, 100), atNothing);
        Due.is("measure(BONDS, 101) by " + name, named(name).measure(BONDS, 101), byOneRow);
        Due.is("measure(BONDS, 201) by " + name, named(name).measure(BONDS, 201), byTwoRows);
        Due.is("measure(BONDS, 1000) by " + name, named(name).measure(BONDS, 1000), byAll);
    }

    private static void measuresAreAsTold(int kind, int p) {
        Seepwork x = new Seepwork();
        x.seed(12);
        x.shut(8, true);
        String[] names = {"many", "size", "span", "cut", "red", "way"};
        int[] told = {x.sizes(kind, p, 0), x.sizes(kind, p, 1), x.spans(kind, p, false) ? 1 : 0, x.cut(kind, p),
            x.red(kind, p), x.shortest(kind, p)};
        for (int i = 0; i < names.length; i++) {
            Start.typeName(x, names[i]);
            Due.is("measure(" + kind + ", " + p + ") by " + names[i], x.measure(kind, p), told[i]);
            x.wipe();
        }
    }

    private static void measure() {
        DOCUMENT.of(40, "Takes the measure that has the NAME.", () -> {
            measureIs("many", 36, 31, 26, 1);
            measureIs("size", 1, 6, 6, 36);
            measureIs("span", 0, 1, 1, 1);
            measureIs("cut", 0, 1, 2, 6);
            measureIs("red", 0, 5, 0, 0);
            measureIs("way", NONE, 5, 5, 5);
        });
        DOCUMENT.range(40, KIND, BAD_ARGUMENT, 0, 2, (x, kind) -> {
            x.wipe();
            Start.typeName(x, "cut");
            x.measure(kind, 500);
        });
        DOCUMENT.range(40, THRESHOLD, BAD_ARGUMENT, 0, 1000, (x, p) -> {
            x.wipe();
            Start.typeName(x, "cut");
            x.measure(BOTH, p);
        });
        DOCUMENT.of(40, "@return as told for it", () -> {
            for (String name : new String[] {"many", "size", "span", "cut", "red", "way"}) {
                Seepwork x = new Seepwork();
                Start.typeName(x, name);
                boolean isWay = name.equals("way");
                Due.is("measure(SITES, 0) by " + name, x.measure(Seepwork.SITES, 0), isWay ? NONE : 0);
                Due.is("measure(BOTH, 0) by " + name, x.measure(BOTH, 0), isWay ? NONE : 0);
            }
            for (int kind = 0; kind <= 2; kind++) {
                for (int p = 300; p <= 900; p += 75) {
                    measuresAreAsTold(kind, p);
                }
            }
        });
        DOCUMENT.of(40, "@throws IllegalStateException if no measure has the NAME", () -> {
            String[] names = {"", "c", "cu", "cuts", "acut", "tuc", "spa", "spans", "manyy", "man", "sizes", "siz", "redd",
                "re", "ways", "wa", "cutcut", "edge", "sizespan"};
            for (String name : names) {
                Seepwork x = named(name);
                Due.badState(x, "measure(0, 500) by " + name, () -> x.measure(0, 500));
                Due.outOfRange(x, "measure(3, 500) by " + name, () -> x.measure(3, 500));
                Due.outOfRange(x, "measure(0, -1) by " + name, () -> x.measure(0, -1));
            }
        });
    }

    private static void countsAre(String shown, Seepwork x, int... due) {
        for (int what = 0; what <= 4; what++) {
            Due.is("count(" + what + ") of " + shown, x.count(what), due[what]);
        }
    }

    private static void count() {
        DOCUMENT.of(41, "Counts.", () -> {
            Seepwork x = new Seepwork();
            x.shut(0, true);
            x.shut(1, true);
            x.grow(1);
            x.wet(2, true);
            x.wet(3, true);
            x.wet(4, true);
            Start.typeName(x, "abcde");
            for (int site = 0; site < 36; site++) {
                x.site(site, site == 6 || site == 7 || site == 8 || site == 12 ? 0 : 9);
            }
            x.drain(1);
            countsAre("some of everything", x, 2, 1, 3, 4, 5);
        });
        DOCUMENT.range(41, "@param what 0 SHUT SITES, 1 TREES, 2 WET SITES, 3 SITES with oil, 4 letters of the NAME", BAD_WHAT,
                0, 4, (x, what) -> x.count(what));
        DOCUMENT.of(41, "@return how many", () -> {
            countsAre("a new one", new Seepwork(), 0, 0, 0, 0, 0);
            countsAre("a full one", Start.FULL.make(), 0, 36, 36, 36, 8);
            countsAre("one all SHUT", Start.ALL_SHUT.make(), 36, 0, 0, 0, 0);
        });
    }
}
