/** Promises 36 to 41. */
public final class MeasuresTest {
    public static void main(String[] args) {
        promise36Scale();
        promise37Estimate();
        promise38And39TypeAndWipe();
        promise40Measure();
        promise41Count();
        Due.end();
    }

    private static void promise36Scale() {
        Seepwork x = new Seepwork();
        Due.is("scale(500, 0)", x.scale(500, 0), 500);
        // 7 sixteenths are 437.5.
        Due.is("scale(500, 1)", x.scale(500, 1), 437);
        Due.is("scale(500, 50)", x.scale(500, 50), 0);
        Due.is("scale(0, 50)", x.scale(0, 50), 0);
        Due.is("scale(1000, 50)", x.scale(1000, 50), 1000);
        for (int p = 0; p <= 1000; p++) {
            stepsAreRight(p);
        }
        int[][] wrong = {{-1, 0}, {1001, 0}, {0, -1}, {0, 51}};
        for (int[] pair : wrong) {
            Due.outOfRange(x, "scale(" + pair[0] + ", " + pair[1] + ")", () -> x.scale(pair[0], pair[1]));
        }
    }

    private static void stepsAreRight(int p) {
        Seepwork x = new Seepwork();
        long due = p;
        Due.is("scale(" + p + ", 0)", x.scale(p, 0), due);
        for (int n = 1; n <= 50; n++) {
            long q = 1000 - due;
            long squared = due * due;
            due = (squared * squared + 4 * squared * due * q + 2 * squared * q * q) / 1000000000L;
            Due.is("scale(" + p + ", " + n + ")", x.scale(p, n), due);
        }
    }

    private static Seepwork withSomeShut() {
        Seepwork x = new Seepwork();
        x.seed(77);
        for (int site : new int[] {8, 9, 26}) {
            x.shut(site, true);
        }
        return x;
    }

    private static void promise37Estimate() {
        String before = Probe.of(withSomeShut());
        for (int kind = 0; kind <= 2; kind++) {
            Seepwork x = withSomeShut();
            Seepwork drawn = withSomeShut();
            for (int p : new int[] {0, 450, 550, 650, 750, 1000}) {
                int due = 0;
                for (int n = 1; n <= 30; n++) {
                    drawn.seed(n);
                    due += drawn.spans(kind, p, false) ? 1 : 0;
                    boolean isAsked = n <= 5 || n % 5 == 0;
                    Due.is("estimate(" + kind + ", " + p + ", " + n + ")", isAsked ? x.estimate(kind, p, n) : due, due);
                }
            }
            Due.isText("the state behind estimate()", Probe.of(x), before);
        }
        Seepwork x = withSomeShut();
        Due.is("estimate(BONDS, 1000, 30)", new Seepwork().estimate(0, 1000, 30), 30);
        int[][] wrong = {{-1, 5, 5}, {3, 5, 5}, {0, -1, 5}, {0, 1001, 5}, {0, 5, 0}, {0, 5, 31}};
        for (int[] three : wrong) {
            String shown = "(" + three[0] + ", " + three[1] + ", " + three[2] + ")";
            Due.outOfRange(x, "estimate" + shown, () -> x.estimate(three[0], three[1], three[2]));
        }
    }

    private static void promise38And39TypeAndWipe() {
        Seepwork x = new Seepwork();
        Due.is("wipe()", x.wipe(), 0);
        for (int i = 1; i <= 8; i++) {
            Due.is("type(..)", x.type(i % 2 == 0 ? 'a' : 'z'), i);
        }
        Due.badState(x, "type('b')", () -> x.type('b'));
        Due.outOfRange(x, "type(96) behind 8", () -> x.type(96));
        Due.is("count(4)", x.count(4), 8);
        Due.is("wipe()", x.wipe(), 8);
        Due.is("wipe()", x.wipe(), 0);
        Due.is("type('a')", x.type('a'), 1);
        for (int letter : new int[] {96, 123, 0, -1, 'A', 'a' + 65536}) {
            Due.outOfRange(x, "type(" + letter + ")", () -> x.type(letter));
        }
        Due.is("wipe()", x.wipe(), 1);
    }

    private static void typeName(Seepwork x, String name) {
        x.wipe();
        Start.typeName(x, name);
    }

    private static void measureIs(Seepwork x, String name, int kind, int p, int due) {
        typeName(x, name);
        Due.is("measure(" + kind + ", " + p + ") " + name, x.measure(kind, p), due);
        Due.is("count(4), as questions change nothing", x.count(4), name.length());
    }

    private static void promise40Measure() {
        for (int kind = 0; kind <= 2; kind++) {
            for (int p = 0; p <= 1000; p += 125) {
                Seepwork x = new Seepwork();
                x.seed(8);
                x.shut(20, true);
                measureIs(x, "many", kind, p, x.sizes(kind, p, 0));
                measureIs(x, "size", kind, p, x.sizes(kind, p, 1));
                measureIs(x, "span", kind, p, x.spans(kind, p, false) ? 1 : 0);
                measureIs(x, "cut", kind, p, x.cut(kind, p));
                measureIs(x, "red", kind, p, x.red(kind, p));
                measureIs(x, "way", kind, p, x.shortest(kind, p));
            }
        }
        Seepwork x = new Seepwork();
        for (String name : new String[] {"", "man", "manyy", "ways", "wa", "spans", "sizes", "cuts", "dcut", "er"}) {
            typeName(x, name);
            Due.badState(x, "measure(0, 0) " + name, () -> x.measure(0, 0));
            Due.outOfRange(x, "measure(3, 0) " + name, () -> x.measure(3, 0));
            Due.outOfRange(x, "measure(0, 1001) " + name, () -> x.measure(0, 1001));
        }
        typeName(x, "cut");
        Due.outOfRange(x, "measure(-1, 0)", () -> x.measure(-1, 0));
        Due.outOfRange(x, "measure(0, -1)", () -> x.measure(0, -1));
        // A span down is none across.
        Seepwork down = new Seepwork();
        for (int bond = 0; bond < 30; bond++) {
            down.bond(bond, 900);
        }
        measureIs(down, "span", 0, 500, 0);
        measureIs(down, "way", 0, 500, Seepwork.NONE);
    }

    private static void promise41Count() {
        Seepwork x = new Seepwork();
        x.shut(0, true);
        x.shut(1, true);
        x.shut(2, true);
        x.grow(1);
        x.wet(3, true);
        x.wet(4, true);
        for (int site = 0; site < 36; site++) {
            x.site(site, site == 6 || site == 7 || site == 13 || site == 12 ? 0 : 900);
        }
        x.drain(1);
        typeName(x, "abcde");
        int[] due = {3, 1, 2, 4, 5};
        for (int what = 0; what <= 4; what++) {
            Due.is("count(" + what + ")", x.count(what), due[what]);
        }
        for (int what : new int[] {-1, 5, Integer.MIN_VALUE, Integer.MAX_VALUE}) {
            Due.outOfRange(x, "count(" + what + ")", () -> x.count(what));
        }
    }
}
