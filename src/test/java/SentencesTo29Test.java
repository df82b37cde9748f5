/** Promises 17 to 29, sentence by sentence. */
public final class SentencesTo29Test {
    private static final int NONE = Seepwork.NONE;

    private static final String COLUMNS = "@param w 1 to 4 columns";
    private static final String ROWS = "@param h 1 to 4 rows";
    private static final String BAD_SET = "@throws IllegalArgumentException if w or h is out of range, the BLOCK has more "
            + "than 12 BONDS, or k is out of range";
    private static final String BAD_CHANCE = "@throws IllegalArgumentException if w or h is out of range, the BLOCK has "
            + "more than 12 BONDS, or a is out of range";
    private static final String BAD_PLACES = "@throws IllegalArgumentException if w, h or k is out of range, or the BLOCK "
            + "has more than 12 places";
    private static final String NO_SITE = "@throws IndexOutOfBoundsException if there is no such SITE";
    private static final String NO_SITE_OF_THREE = "@throws IndexOutOfBoundsException if there is no such SITE, of the three";
    private static final String BAD_N = "@throws IllegalArgumentException if n is out of range";
    private static final String BEGIN = "@param site the SITE where it begins";
    private static final String IS_SHUT = "@throws IllegalStateException if the SITE is SHUT";
    private static final String BAD_TIME = "@throws IllegalArgumentException if time is out of range";
    private static final String BAD_NEED = "@throws IllegalArgumentException if k or what is out of range";

    private static final Sentences DOCUMENT = new Sentences();

    public static void main(String[] args) {
        polynomial();
        chance();
        pivots();
        eachOrderHasOnePivot();
        time();
        ball();
        rival();
        invade();
        invaded();
        wet();
        filled();
        leastWet();
        grow();
        lightning();
        DOCUMENT.end(17, 29);
    }

    private static int bondsOf(int w, int h) {
        return (w - 1) * h + w * (h - 1);
    }

    private interface OfBlock {
        long of(int w, int h, int k);
    }

    private static void refused(String shown, int w, int h, int k, OfBlock call) {
        Due.isText(shown + "(" + w + ", " + h + ", " + k + ") throws", Due.thrownBy(() -> call.of(w, h, k)),
                "java.lang.IllegalArgumentException");
    }

    private static void taken(String shown, int w, int h, int k, OfBlock call) {
        Due.isText(shown + "(" + w + ", " + h + ", " + k + ") throws", Due.thrownBy(() -> call.of(w, h, k)), "nothing");
    }

    /** Of each BLOCK the sets of 0 BONDS to all are taken; one more, or one less, is refused. */
    private static void setsAreBounded(String shown, OfBlock call) {
        for (int w = 1; w <= 4; w++) {
            for (int h = 1; h <= 4; h++) {
                int all = bondsOf(w, h);
                for (int k = 0; k <= all && all <= 12; k++) {
                    taken(shown, w, h, k, call);
                }
                refused(shown, w, h, -1, call);
                refused(shown, w, h, all + 1, call);
                refused(shown, w, h, Integer.MAX_VALUE, call);
                refused(shown, w, h, Integer.MIN_VALUE, call);
            }
        }
    }

    /** 3 by 3 has 12 BONDS, and is the greatest; 3 by 4 and 4 by 3 have 17, and 4 by 4 has 24. */
    private static void blocksAreBounded(String shown, OfBlock call) {
        taken(shown, 3, 3, 0, call);
        taken(shown, 4, 2, 0, call);
        taken(shown, 2, 4, 0, call);
        refused(shown, 3, 4, 0, call);
        refused(shown, 4, 3, 0, call);
        refused(shown, 4, 4, 0, call);
    }

    private static void polynomial() {
        OfBlock call = (w, h, k) -> new Seepwork().polynomial(w, h, k);
        DOCUMENT.of(17, "Counts the sets of k BONDS that span a BLOCK.", () -> {
            int[] due = {0, 2, 5, 4, 1};
            for (int k = 0; k <= 4; k++) {
                Due.is("polynomial(2, 2, " + k + ")", call.of(2, 2, k), due[k]);
            }
            Due.is("polynomial(4, 1, 3)", call.of(4, 1, 3), 1);
            Due.is("polynomial(1, 4, 2)", call.of(1, 4, 2), 3);
            Due.is("polynomial(3, 3, 4)", call.of(3, 3, 4), 162);
        });
        DOCUMENT.range(17, COLUMNS, BAD_SET, 1, 4, (x, w) -> x.polynomial(w, 2, 0));
        DOCUMENT.range(17, ROWS, BAD_SET, 1, 4, (x, h) -> x.polynomial(2, h, 0));
        DOCUMENT.of(17, "@param k 0 to all of its BONDS", () -> setsAreBounded("polynomial", call));
        DOCUMENT.of(17, "the BLOCK has more than 12 BONDS", () -> blocksAreBounded("polynomial", call));
        DOCUMENT.of(17, "@return how many", () -> {
            Due.is("polynomial(1, 1, 0)", call.of(1, 1, 0), 1);
            Due.is("polynomial(2, 1, 0)", call.of(2, 1, 0), 0);
            Due.is("polynomial(3, 3, 0)", call.of(3, 3, 0), 0);
            Due.is("polynomial(3, 3, 12)", call.of(3, 3, 12), 1);
        });
    }

    private static void chance() {
        OfBlock call = (w, h, a) -> new Seepwork().chance(w, h, a);
        DOCUMENT.of(18, "Returns the chance that a BLOCK is spanned, if each BOND is OPEN by itself with a chance in tenths.",
                () -> {
            Due.is("chance(2, 1, 3)", call.of(2, 1, 3), 3);
            Due.is("chance(4, 1, 3)", call.of(4, 1, 3), 27);
            // Of two rows one at least has to be OPEN, and those BONDS that join the rows are as they are.
            Due.is("chance(2, 2, 3)", call.of(2, 2, 3), (100 - 7 * 7) * 100);
        });
        DOCUMENT.range(18, COLUMNS, BAD_CHANCE, 1, 4, (x, w) -> x.chance(w, 2, 5));
        DOCUMENT.range(18, ROWS, BAD_CHANCE, 1, 4, (x, h) -> x.chance(2, h, 5));
        DOCUMENT.range(18, "@param a 0 to 10 tenths", BAD_CHANCE, 0, 10, (x, a) -> x.chance(3, 3, a));
        DOCUMENT.of(18, "the BLOCK has more than 12 BONDS", () -> blocksAreBounded("chance", call));
        DOCUMENT.of(18, "@return the chance, times 10 to the power of how many BONDS there are", () -> {
            Due.is("chance(1, 1, 0)", call.of(1, 1, 0), 1);
            Due.is("chance(1, 2, 0)", call.of(1, 2, 0), 10);
            Due.is("chance(3, 3, 0)", call.of(3, 3, 0), 0);
            Due.is("chance(3, 3, 10)", call.of(3, 3, 10), 1000000000000L);
            Due.is("chance(4, 2, 10)", call.of(4, 2, 10), 10000000000L);
        });
    }

    private static void pivots() {
        OfBlock call = (w, h, k) -> new Seepwork().pivots(w, h, k);
        DOCUMENT.of(19, "Counts the pairs of a set of k BONDS that does not span a BLOCK, and a BOND with which it does.", () -> {
            int[] due = {2, 4, 2, 0, 0};
            for (int k = 0; k <= 4; k++) {
                Due.is("pivots(2, 2, " + k + ")", call.of(2, 2, k), due[k]);
            }
            Due.is("pivots(4, 1, 2)", call.of(4, 1, 2), 3);
        });
        DOCUMENT.range(19, COLUMNS, BAD_SET, 1, 4, (x, w) -> x.pivots(w, 2, 0));
        DOCUMENT.range(19, ROWS, BAD_SET, 1, 4, (x, h) -> x.pivots(2, h, 0));
        DOCUMENT.of(19, "@param k 0 to all of its BONDS", () -> setsAreBounded("pivots", call));
        DOCUMENT.of(19, "the BLOCK has more than 12 BONDS", () -> blocksAreBounded("pivots", call));
        DOCUMENT.of(19, "@return how many", () -> {
            Due.is("pivots(1, 1, 0)", call.of(1, 1, 0), 0);
            Due.is("pivots(1, 4, 3)", call.of(1, 4, 3), 0);
            Due.is("pivots(2, 1, 0)", call.of(2, 1, 0), 1);
            Due.is("pivots(3, 3, 0)", call.of(3, 3, 0), 0);
            Due.is("pivots(3, 3, 12)", call.of(3, 3, 12), 0);
        });
    }

    /** In each order in which all BONDS are laid there is just one with which the span begins. */
    private static void eachOrderHasOnePivot() {
        DOCUMENT.of(19, "a BOND with which it does", () -> {
            for (int w = 1; w <= 4; w++) {
                for (int h = 1; h <= 4; h++) {
                    int all = bondsOf(w, h);
                    Seepwork x = new Seepwork();
                    long pairs = 0;
                    for (int k = 0; k <= all && all <= 12; k++) {
                        // So many orders have this set ahead of the BOND, and all others behind it.
                        pairs += x.pivots(w, h, k) * factorial(k) * factorial(all - k - 1);
                    }
                    boolean isAsked = all <= 12 && w > 1;
                    Due.is("the orders of " + w + " by " + h, isAsked ? pairs : 0, isAsked ? factorial(all) : 0);
                }
            }
        });
    }

    private static long factorial(int n) {
        long product = 1;
        for (int i = 2; i <= n; i++) {
            product *= i;
        }
        return product;
    }

    private static void time() {
        DOCUMENT.of(20, "Returns a time.", () -> {
            Seepwork x = new Seepwork();
            x.bond(0, 6);
            Due.is("time(0, 1) around", x.time(0, 1), 3);
            x.bond(0, 1);
            Due.is("time(0, 1) at once", x.time(0, 1), 2);
            Due.is("time(0, 35)", x.time(0, 35), 10);
        });
        DOCUMENT.index(20, "@param from a SITE", NO_SITE, 36, (x, from) -> x.time(from, 0));
        DOCUMENT.index(20, "@param to a SITE", NO_SITE, 36, (x, to) -> x.time(0, to));
        DOCUMENT.of(20, "@return the time; NONE if there is none", () -> {
            Seepwork x = new Seepwork();
            Due.is("time(5, 5)", x.time(5, 5), 0);
            x.shut(4, true);
            Due.is("time(5, 4)", x.time(5, 4), NONE);
            Due.is("time(4, 5)", x.time(4, 5), NONE);
            Due.is("time(4, 4)", x.time(4, 4), NONE);
            x.shut(11, true);
            Due.is("time(5, 0), where 5 is barred", x.time(5, 0), NONE);
            Due.is("time(0, 5), where 5 is barred", x.time(0, 5), NONE);
            Due.is("time(5, 5), where 5 is barred", x.time(5, 5), 0);
        });
    }

    private static void ball() {
        DOCUMENT.of(21, "Counts the SITES to which it takes a time at most, the first one with them.", () -> {
            Seepwork x = new Seepwork();
            x.bond(0, 1);
            x.bond(30, 2);
            int[] due = {1, 1, 2, 5};
            for (int time = 0; time < due.length; time++) {
                Due.is("ball(0, " + time + ")", x.ball(0, time), due[time]);
            }
        });
        DOCUMENT.index(21, "@param site a SITE", NO_SITE, 36, (x, site) -> x.ball(site, 5));
        DOCUMENT.range(21, "@param time 0 to 60000", BAD_TIME, 0, 60000, (x, time) -> x.ball(35, time));
        DOCUMENT.of(21, "@return how many; 0 if it is SHUT", () -> {
            Seepwork x = new Seepwork();
            Due.is("ball(14, 0)", x.ball(14, 0), 1);
            Due.is("ball(14, 60000)", x.ball(14, 60000), 36);
            x.shut(14, true);
            Due.is("ball(14, 0), where it is SHUT", x.ball(14, 0), 0);
            Due.is("ball(14, 60000), where it is SHUT", x.ball(14, 60000), 0);
            Due.is("ball(13, 60000), where 14 is SHUT", x.ball(13, 60000), 35);
        });
    }

    private static void rival() {
        DOCUMENT.of(22, "Tells which of two floods comes first to a SITE, both beginning at once.", () -> {
            Seepwork x = new Seepwork();
            for (int column = 0; column < 6; column++) {
                Due.is("rival(0, 5, " + column + ")", x.rival(0, 5, column), column < 3 ? 0 : 1);
                Due.is("rival(5, 0, " + column + ")", x.rival(5, 0, column), column < 3 ? 1 : 0);
            }
        });
        DOCUMENT.index(22, "@param one the SITE where the first one begins", NO_SITE_OF_THREE, 36,
                (x, one) -> x.rival(one, one == 3 ? 4 : 3, 0));
        DOCUMENT.index(22, "@param other that of the second one", NO_SITE_OF_THREE, 36,
                (x, other) -> x.rival(other == 3 ? 4 : 3, other, 0));
        DOCUMENT.index(22, "@param site a SITE", NO_SITE_OF_THREE, 36, (x, site) -> x.rival(0, 1, site));
        DOCUMENT.of(22, "@return 0 for the first one, 1 for the second one", () -> {
            // By 1 more it is the other one's.
            Seepwork x = new Seepwork();
            x.bond(0, 1);
            x.shut(6, true);
            x.shut(7, true);
            Due.is("rival(0, 3, 1), both by 2", x.rival(0, 3, 1), NONE);
            x.bond(0, 2);
            Due.is("rival(0, 3, 1), the first one by 3", x.rival(0, 3, 1), 1);
            x.bond(0, 0);
            Due.is("rival(0, 3, 1), the first one by 1", x.rival(0, 3, 1), 0);
            Due.is("rival(0, 3, 0)", x.rival(0, 3, 0), 0);
            Due.is("rival(0, 3, 3)", x.rival(0, 3, 3), 1);
        });
        DOCUMENT.of(22, "the one that comes, if one alone does", () -> {
            Seepwork x = new Seepwork();
            x.shut(0, true);
            Due.is("rival(0, 35, 1), where the first one is SHUT", x.rival(0, 35, 1), 1);
            Due.is("rival(35, 0, 1), where the second one is SHUT", x.rival(35, 0, 1), 0);
            x.shut(34, true);
            x.shut(29, true);
            Due.is("rival(35, 1, 20), where the first one is barred", x.rival(35, 1, 20), 1);
            Due.is("rival(1, 35, 35), where the first one is barred", x.rival(1, 35, 35), 1);
        });
        DOCUMENT.of(22, "NONE if both come at once, or none comes", () -> {
            Seepwork x = new Seepwork();
            Due.is("rival(0, 2, 1)", x.rival(0, 2, 1), NONE);
            Due.is("rival(0, 35, 5)", x.rival(0, 35, 5), NONE);
            x.shut(1, true);
            Due.is("rival(0, 2, 1), where it is SHUT", x.rival(0, 2, 1), NONE);
            x.shut(0, true);
            x.shut(2, true);
            Due.is("rival(0, 2, 20), where both are SHUT", x.rival(0, 2, 20), NONE);
        });
        DOCUMENT.of(22, "@throws IllegalArgumentException if both begin at the same SITE", () -> {
            for (int site = 0; site < 36; site++) {
                int one = site;
                Seepwork x = new Seepwork();
                Due.outOfRange(x, "rival(" + one + ", " + one + ", 0)", () -> x.rival(one, one, 0));
            }
            Seepwork x = new Seepwork();
            x.shut(4, true);
            Due.outOfRange(x, "rival(4, 4, 4), where it is SHUT", () -> x.rival(4, 4, 4));
            Due.noSuch(x, "rival(-1, -1, 4)", () -> x.rival(-1, -1, 4));
            Due.noSuch(x, "rival(4, 4, 36)", () -> x.rival(4, 4, 36));
        });
    }

    /** All is SHUT but the top row, whose BONDS have the NUMBERS 10 to 50 from the left on. */
    private static Seepwork withTopRow() {
        Seepwork x = new Seepwork();
        x.strike(36);
        for (int column = 0; column < 6; column++) {
            x.shut(column, false);
        }
        for (int bond = 0; bond < 5; bond++) {
            x.bond(bond, 10 * (bond + 1));
        }
        return x;
    }

    private static void invade() {
        DOCUMENT.of(23, "Returns the SITE that comes as the n-th by invasion.", () -> {
            int[] due = {2, 1, 0, 3, 4, 5};
            for (int n = 0; n < due.length; n++) {
                Due.is("invade(2, " + n + ")", withTopRow().invade(2, n), due[n]);
            }
        });
        DOCUMENT.index(23, BEGIN, NO_SITE, 36, (x, site) -> x.invade(site, 5));
        DOCUMENT.range(23, "@param n 0 to 35, 0 for that one", BAD_N, 0, 35, (x, n) -> x.invade(0, n));
        DOCUMENT.of(23, "0 for that one", () -> {
            for (int site = 0; site < 36; site++) {
                Due.is("invade(" + site + ", 0)", new Seepwork().invade(site, 0), site);
            }
        });
        DOCUMENT.of(23, "@return the SITE; NONE if not so many come", () -> {
            Due.is("invade(2, 5), the last one", withTopRow().invade(2, 5), 5);
            Due.is("invade(2, 6)", withTopRow().invade(2, 6), NONE);
            Due.is("invade(2, 35)", withTopRow().invade(2, 35), NONE);
            Due.is("invade(0, 35), where all come", new Seepwork().invade(0, 35) != NONE, true);
        });
        DOCUMENT.of(23, IS_SHUT, () -> {
            Seepwork x = withTopRow();
            Due.badState(x, "invade(6, 0)", () -> x.invade(6, 0));
            Due.badState(x, "invade(35, 35)", () -> x.invade(35, 35));
            Due.outOfRange(x, "invade(6, 36)", () -> x.invade(6, 36));
            Due.noSuch(x, "invade(36, 0)", () -> x.invade(36, 0));
        });
    }

    private static void invaded() {
        DOCUMENT.of(24, "Returns the greatest NUMBER of the BONDS over which the first n SITES come by invasion", () -> {
            int[] due = {NONE, 20, 20, 30, 40, 50};
            for (int n = 0; n < due.length; n++) {
                Due.is("invaded(2, " + n + ")", withTopRow().invaded(2, n), due[n]);
            }
        });
        DOCUMENT.of(24, "the one where it begins not counted", () -> {
            Due.is("invaded(0, 1)", withTopRow().invaded(0, 1), 10);
            Due.is("invaded(0, 2)", withTopRow().invaded(0, 2), 20);
            Due.is("invaded(0, 35), where all come", new Seepwork().invaded(0, 35), 0);
        });
        DOCUMENT.index(24, BEGIN, NO_SITE, 36, (x, site) -> x.invaded(site, 5));
        DOCUMENT.range(24, "@param n 0 to 35", BAD_N, 0, 35, (x, n) -> x.invaded(0, n));
        DOCUMENT.of(24, "@return the NUMBER; NONE for 0, or if not so many come", () -> {
            Due.is("invaded(2, 0)", withTopRow().invaded(2, 0), NONE);
            Due.is("invaded(2, 5), the last one", withTopRow().invaded(2, 5), 50);
            Due.is("invaded(2, 6)", withTopRow().invaded(2, 6), NONE);
            Due.is("invaded(2, 35)", withTopRow().invaded(2, 35), NONE);
        });
        DOCUMENT.of(24, IS_SHUT, () -> {
            Seepwork x = withTopRow();
            Due.badState(x, "invaded(6, 0)", () -> x.invaded(6, 0));
            Due.badState(x, "invaded(35, 35)", () -> x.invaded(35, 35));
            Due.outOfRange(x, "invaded(6, -1)", () -> x.invaded(6, -1));
            Due.noSuch(x, "invaded(-1, 0)", () -> x.invaded(-1, 0));
        });
    }

    private static void wet() {
        DOCUMENT.of(25, "Makes a SITE WET, or not WET any more.", () -> {
            Seepwork x = new Seepwork();
            x.wet(35, true);
            Due.is("count(2)", x.count(2), 1);
            x.wet(35, true);
            Due.is("count(2), told twice", x.count(2), 1);
            x.wet(35, false);
            Due.is("count(2), dry again", x.count(2), 0);
        });
        DOCUMENT.index(25, "@param site a SITE", NO_SITE, 36, (x, site) -> x.wet(site, true));
        DOCUMENT.index(25, "@param site a SITE", NO_SITE, 36, (x, site) -> x.wet(site, false));
        DOCUMENT.of(25, "@param isWet which of both", () -> {
            Seepwork x = Start.FULL.make();
            x.wet(3, true);
            Due.isText("the state behind wet(3, true), where it is", Probe.of(x), Probe.of(Start.FULL.make()));
            Seepwork y = new Seepwork();
            y.wet(3, false);
            Due.isText("the state behind wet(3, false), where it is not", Probe.of(y), Probe.of(new Seepwork()));
        });
        DOCUMENT.of(25, "@return whether it was WET", () -> {
            Seepwork x = new Seepwork();
            Due.is("wet(0, false), where it is not", x.wet(0, false), false);
            Due.is("wet(0, true), where it is not", x.wet(0, true), false);
            Due.is("wet(0, true), where it is", x.wet(0, true), true);
            Due.is("wet(0, false), where it is", x.wet(0, false), true);
            Due.is("wet(0, false), where it is not any more", x.wet(0, false), false);
        });
        DOCUMENT.of(25, "@throws IllegalStateException if it is SHUT, whichever is told", () -> {
            for (int site = 0; site < 36; site += 7) {
                int one = site;
                Seepwork x = new Seepwork();
                x.wet(one, true);
                x.shut(one, true);
                Due.badState(x, "wet(" + one + ", true)", () -> x.wet(one, true));
                Due.badState(x, "wet(" + one + ", false)", () -> x.wet(one, false));
                x.shut(one, false);
                Due.is("wet(" + one + ", true), open again", x.wet(one, true), false);
            }
        });
    }

    private static void filled() {
        DOCUMENT.of(26, "Tells how the WET ones would fill.", () -> {
            Seepwork x = new Seepwork();
            x.wet(0, true);
            x.wet(7, true);
            Due.is("filled(2, 0)", x.filled(2, 0), 4);
            Due.is("filled(2, 1)", x.filled(2, 1), 1);
            Due.is("count(2), as they only would", x.count(2), 2);
        });
        DOCUMENT.range(26, "@param k a need, 1 to 4", BAD_NEED, 1, 4, (x, k) -> x.filled(k, 0));
        DOCUMENT.range(26, "@param what 0 how many are WET in the end", BAD_NEED, 0, 1, (x, what) -> x.filled(1, what));
        DOCUMENT.of(26, "1 in how many rounds some become so", () -> {
            Seepwork x = new Seepwork();
            Due.is("filled(1, 1), where none is WET", x.filled(1, 1), 0);
            x.wet(0, true);
            Due.is("filled(1, 1), from one corner to the other", x.filled(1, 1), 10);
            x.wet(35, true);
            Due.is("filled(1, 1), from both corners", x.filled(1, 1), 5);
            Due.is("filled(2, 1), from both corners", x.filled(2, 1), 0);
            Due.is("filled(1, 1), where all are WET", Start.FULL.make().filled(1, 1), 0);
        });
        DOCUMENT.of(26, "@return as told", () -> {
            Due.is("filled(1, 0), where none is WET", new Seepwork().filled(1, 0), 0);
            for (int k = 1; k <= 4; k++) {
                Due.is("filled(" + k + ", 0), where all are WET", Start.FULL.make().filled(k, 0), 36);
                Due.is("filled(" + k + ", 0), where all are SHUT", Start.ALL_SHUT.make().filled(k, 0), 0);
            }
            // A corner has two beside it, a side three, and what lies within four.
            int[] corners = {36, 36, 35, 35};
            int[] sides = {36, 36, 36, 35};
            for (int k = 1; k <= 4; k++) {
                Due.is("filled(" + k + ", 0), where a corner is dry", withOneDry(0).filled(k, 0), corners[k - 1]);
                Due.is("filled(" + k + ", 0), where a side is dry", withOneDry(3).filled(k, 0), sides[k - 1]);
                Due.is("filled(" + k + ", 0), where one within is dry", withOneDry(14).filled(k, 0), 36);
            }
        });
    }

    private static Seepwork withOneDry(int site) {
        Seepwork x = Start.FULL.make();
        x.wet(site, false);
        return x;
    }

    private static void leastWet() {
        DOCUMENT.of(27, "Returns how many places of a BLOCK have to be WET at least, so that all of it fills", () -> {
            Due.is("leastWet(4, 3, 1)", new Seepwork().leastWet(4, 3, 1), 1);
            Due.is("leastWet(4, 3, 2)", new Seepwork().leastWet(4, 3, 2), 4);
            Due.is("leastWet(4, 3, 3)", new Seepwork().leastWet(4, 3, 3), 7);
            Due.is("leastWet(4, 3, 4)", new Seepwork().leastWet(4, 3, 4), 11);
            Due.is("leastWet(1, 4, 2)", new Seepwork().leastWet(1, 4, 2), 3);
        });
        DOCUMENT.of(27, "with nothing else beside it", () -> {
            Due.is("leastWet(3, 3, 3) of full SITES", Start.FULL.make().leastWet(3, 3, 3), 5);
            Due.is("leastWet(3, 3, 3) of SHUT SITES", Start.ALL_SHUT.make().leastWet(3, 3, 3), 5);
        });
        DOCUMENT.range(27, COLUMNS, BAD_PLACES, 1, 4, (x, w) -> x.leastWet(w, 2, 2));
        DOCUMENT.range(27, ROWS, BAD_PLACES, 1, 4, (x, h) -> x.leastWet(2, h, 2));
        DOCUMENT.range(27, "@param k a need, 1 to 4", BAD_PLACES, 1, 4, (x, k) -> x.leastWet(3, 3, k));
        DOCUMENT.of(27, "the BLOCK has more than 12 places", () -> {
            OfBlock call = (w, h, k) -> new Seepwork().leastWet(w, h, k);
            taken("leastWet", 3, 4, 1, call);
            taken("leastWet", 4, 3, 1, call);
            refused("leastWet", 4, 4, 1, call);
            refused("leastWet", 4, 4, 4, call);
        });
        DOCUMENT.of(27, "@return how many", () -> {
            for (int k = 1; k <= 4; k++) {
                Due.is("leastWet(1, 1, " + k + ")", new Seepwork().leastWet(1, 1, k), 1);
                Due.is("leastWet(2, 2, " + k + ")", new Seepwork().leastWet(2, 2, k), new int[] {1, 2, 4, 4}[k - 1]);
            }
        });
    }

    private static void grow() {
        DOCUMENT.of(28, "Lets TREES grow by draws.", () -> {
            // Both ends of what a call may draw, and what is between: Probe tells where the next draw falls.
            for (int n : new int[] {1, 2, 99, 170}) {
                Seepwork once = new Seepwork();
                once.grow(n);
                Seepwork often = new Seepwork();
                for (int i = 0; i < n; i++) {
                    often.grow(1);
                }
                Due.isText("the state behind grow(" + n + ")", Probe.of(once), Probe.of(often));
            }
            Seepwork most = new Seepwork();
            most.grow(200);
            Seepwork twice = new Seepwork();
            twice.grow(103);
            twice.grow(97);
            Due.isText("the state behind grow(200)", Probe.of(most), Probe.of(twice));
        });
        DOCUMENT.range(28, "@param n 1 to 200 draws", BAD_N, 1, 200, (x, n) -> x.grow(n));
        DOCUMENT.of(28, "@return how many TREES stand then", () -> {
            Due.is("grow(1)", new Seepwork().grow(1), 1);
            Due.is("grow(60), by the document's draws", new Seepwork().grow(60), treesBehind(60));
            Due.is("grow(200), by the document's draws", new Seepwork().grow(200), treesBehind(200));
            Due.is("grow(200), where all are full", Start.FULL.make().grow(200), 36);
            Due.is("grow(200), where all are SHUT", Start.ALL_SHUT.make().grow(200), 0);
        });
    }

    private static int treesBehind(int draws) {
        boolean[] trees = new boolean[36];
        int count = 0;
        long d = 0;
        for (int i = 0; i < draws; i++) {
            d = (25173L * d + 13849L) % 65536L;
            count += trees[(int) (d % 36L)] ? 0 : 1;
            trees[(int) (d % 36L)] = true;
        }
        return count;
    }

    private static void lightning() {
        DOCUMENT.of(29, "Lets lightning strike.", () -> {
            Seepwork x = Start.FULL.make();
            Due.is("lightning(35)", x.lightning(35), 36);
            Due.is("count(1)", x.count(1), 0);
            Due.is("count(2), as it burns TREES alone", x.count(2), 36);
            Due.is("count(3), as it burns TREES alone", x.count(3), 36);
        });
        DOCUMENT.index(29, "@param site a SITE", NO_SITE, 36, (x, site) -> x.lightning(site));
        DOCUMENT.of(29, "@return how many TREES burn, 0 if none stands there", () -> {
            Seepwork x = new Seepwork();
            Due.is("lightning(25), where none has grown", x.lightning(25), 0);
            x.grow(1);
            Due.is("lightning(24), beside a TREE", x.lightning(24), 0);
            Due.is("lightning(25), at a TREE", x.lightning(25), 1);
            Due.is("lightning(25), where it has burnt", x.lightning(25), 0);
            x.shut(25, true);
            Due.is("lightning(25), where it is SHUT", x.lightning(25), 0);
            Due.is("lightning(0), where all are SHUT", Start.ALL_SHUT.make().lightning(0), 0);
        });
    }
}
