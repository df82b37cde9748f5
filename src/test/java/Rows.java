/** All methods of the face, with the bounds of their arguments and what else they refuse, as the document lists them. */
final class Rows {
    private static final Row.Argument KIND = Row.range(0, 2);
    private static final Row.Argument THRESHOLD = Row.range(0, 1000);
    private static final Row.Argument NUMBER = Row.range(0, 999);
    private static final Row.Argument SIDE = Row.range(1, 4);
    private static final Row.Argument SITE = Row.index(36);
    private static final Row.Argument BOND = Row.index(60);
    private static final Row.Argument FLAG = Row.flag();

    private static final Row[] SITES_AND_BONDS = {
        Row.change("seed", (x, a) -> nothing(() -> x.seed(a[0])), Row.range(0, 65535)),
        Row.change("bond", (x, a) -> x.bond(a[0], a[1]), BOND, NUMBER),
        Row.change("site", (x, a) -> x.site(a[0], a[1]), SITE, NUMBER),
        Row.question("numberOf", (x, a) -> x.numberOf(a[0], a[1]), KIND, BOND),
        Row.change("shut", (x, a) -> bit(x.shut(a[0], a[1] == 1)), SITE, FLAG),
        Row.change("strike", (x, a) -> x.strike(a[0]), Row.range(0, 36)),
    };

    private static final Row[] THRESHOLDS = {
        Row.question("cluster", (x, a) -> x.cluster(a[0], a[1], a[2]), KIND, THRESHOLD, SITE),
        Row.question("sizes", (x, a) -> x.sizes(a[0], a[1], a[2]), KIND, THRESHOLD, Row.range(0, 2)),
        Row.question("spans", (x, a) -> bit(x.spans(a[0], a[1], a[2] == 1)), KIND, THRESHOLD, FLAG),
        Row.question("edge", (x, a) -> x.edge(a[0], a[1] == 1), KIND, FLAG),
        Row.question("edgeAnew", (x, a) -> x.edgeAnew(a[0], a[1] == 1), KIND, FLAG),
        Row.question("ways", (x, a) -> x.ways(a[0], a[1]), KIND, THRESHOLD),
        Row.question("cut", (x, a) -> x.cut(a[0], a[1]), KIND, THRESHOLD),
        Row.question("red", (x, a) -> x.red(a[0], a[1]), KIND, THRESHOLD),
        Row.question("shortest", (x, a) -> x.shortest(a[0], a[1]), KIND, THRESHOLD),
    };

    private static final Row[] BLOCKS = {
        Row.question("polynomial", (x, a) -> x.polynomial(a[0], a[1], a[2]), SIDE, SIDE, Row.range(0, 12))
            .misfits(a -> bondsOf(a) > 12 || a[2] > bondsOf(a)),
        Row.question("chance", (x, a) -> x.chance(a[0], a[1], a[2]), SIDE, SIDE, Row.range(0, 10))
            .misfits(a -> bondsOf(a) > 12),
        Row.question("pivots", (x, a) -> x.pivots(a[0], a[1], a[2]), SIDE, SIDE, Row.range(0, 12))
            .misfits(a -> bondsOf(a) > 12 || a[2] > bondsOf(a)),
    };

    private static final Row[] TIMES = {
        Row.question("time", (x, a) -> x.time(a[0], a[1]), SITE, SITE),
        Row.question("ball", (x, a) -> x.ball(a[0], a[1]), SITE, Row.range(0, 60000)),
        Row.question("rival", (x, a) -> x.rival(a[0], a[1], a[2]), SITE, SITE, SITE).misfits(a -> a[0] == a[1]),
        Row.question("invade", (x, a) -> x.invade(a[0], a[1]), SITE, Row.range(0, 35))
            .hindered((start, a) -> start.isShut(a[0])),
        Row.question("invaded", (x, a) -> x.invaded(a[0], a[1]), SITE, Row.range(0, 35))
            .hindered((start, a) -> start.isShut(a[0])),
    };

    private static final Row[] WET_AND_WOODS = {
        Row.change("wet", (x, a) -> bit(x.wet(a[0], a[1] == 1)), SITE, FLAG)
            .hindered((start, a) -> start.isShut(a[0])),
        Row.question("filled", (x, a) -> x.filled(a[0], a[1]), Row.range(1, 4), Row.range(0, 1)),
        Row.question("leastWet", (x, a) -> x.leastWet(a[0], a[1], a[2]), SIDE, SIDE, Row.range(1, 4))
            .misfits(a -> a[0] * a[1] > 12),
        Row.change("grow", (x, a) -> x.grow(a[0]), Row.range(1, 200)),
        Row.change("lightning", (x, a) -> x.lightning(a[0]), SITE),
    };

    private static final Row[] FIBRES_AND_OIL = {
        Row.change("fibre", (x, a) -> x.fibre(a[0], a[1]), Row.index(12), Row.range(1, 1000)),
        Row.question("load", (x, a) -> x.load(a[0], a[1] == 1), Row.range(0, 20000), FLAG),
        Row.question("lastStraw", (x, a) -> x.lastStraw(a[0] == 1), FLAG),
        Row.change("drain", (x, a) -> x.drain(a[0]), THRESHOLD),
        Row.change("soak", (x, a) -> x.soak(a[0]), THRESHOLD),
        Row.question("trapped", (x, a) -> x.trapped(a[0] == 1), FLAG),
    };

    private static final Row[] MEASURES = {
        Row.question("scale", (x, a) -> x.scale(a[0], a[1]), THRESHOLD, Row.range(0, 50)),
        Row.question("estimate", (x, a) -> x.estimate(a[0], a[1], a[2]), KIND, THRESHOLD, Row.range(1, 30)),
        Row.change("type", (x, a) -> x.type(a[0]), Row.range(97, 122))
            .hindered((start, a) -> start.hasEightLetters()),
        Row.change("wipe", (x, a) -> x.wipe()),
        Row.question("measure", (x, a) -> x.measure(a[0], a[1]), KIND, THRESHOLD)
            .hindered((start, a) -> !start.hasMeasure()),
        Row.question("count", (x, a) -> x.count(a[0]), Row.range(0, 4)),
    };

    static final Row[][] ALL = {
        SITES_AND_BONDS, THRESHOLDS, BLOCKS, TIMES, WET_AND_WOODS, FIBRES_AND_OIL, MEASURES,
    };

    private Rows() {
    }

    private static int bondsOf(int[] a) {
        return (a[0] - 1) * a[1] + a[0] * (a[1] - 1);
    }

    private static long bit(boolean isTrue) {
        return isTrue ? 1 : 0;
    }

    private static long nothing(Due.Call call) {
        call.run();
        return 0;
    }
}
