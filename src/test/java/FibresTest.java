import java.util.Arrays;
import java.util.Random;

/** Promises 30 to 32. */
public final class FibresTest {
    public static void main(String[] args) {
        promise30Fibre();
        promise31LoadEvenly();
        promise31LoadByNeighbours();
        theRingCloses();
        oneAfterAnother();
        manyRings();
        promise32LastStraw();
        Due.end();
    }

    private static Seepwork withStrengths(int... strengths) {
        Seepwork x = new Seepwork();
        for (int fibre = 0; fibre < 12; fibre++) {
            x.fibre(fibre, strengths[fibre % strengths.length]);
        }
        return x;
    }

    private static void promise30Fibre() {
        Seepwork x = new Seepwork();
        for (int fibre = 0; fibre < 12; fibre++) {
            Due.is("fibre(" + fibre + ", ..)", x.fibre(fibre, 500 + fibre), 100);
        }
        for (int fibre = 0; fibre < 12; fibre++) {
            Due.is("fibre(" + fibre + ", 1000)", x.fibre(fibre, 1000), 500 + fibre);
        }
        Due.is("fibre(0, 1)", x.fibre(0, 1), 1000);
        Due.is("fibre(0, 1)", x.fibre(0, 1), 1);
        for (int fibre = 0; fibre < 12; fibre++) {
            Seepwork y = null;
            for (int strength = 1; strength <= 1000; strength++) {
                boolean isNew = strength % 500 == 1;
                y = isNew ? new Seepwork() : y;
                Due.is("fibre(" + fibre + ", " + strength + ")", y.fibre(fibre, strength), isNew ? 100 : strength - 1);
            }
        }
        Due.noSuch(x, "fibre(-1, 1)", () -> x.fibre(-1, 1));
        Due.noSuch(x, "fibre(12, 1)", () -> x.fibre(12, 1));
        Due.noSuch(x, "fibre(12, 0)", () -> x.fibre(12, 0));
        Due.outOfRange(x, "fibre(0, 0)", () -> x.fibre(0, 0));
        Due.outOfRange(x, "fibre(0, 1001)", () -> x.fibre(0, 1001));
    }

    private static void promise31LoadEvenly() {
        Seepwork x = new Seepwork();
        Due.is("load(0, false)", x.load(0, false), 0);
        Due.is("load(1211, false)", x.load(1211, false), 0);
        Due.is("load(1212, false)", x.load(1212, false), 12);
        Due.is("load(20000, false)", x.load(20000, false), 12);
        // By 24 each bears 2, so one breaks; 11 bear 2 each, and the rest holds.
        Seepwork y = withStrengths(1, 50, 50, 50, 50, 50, 50, 50, 50, 50, 50, 50);
        Due.is("load(23, false)", y.load(23, false), 0);
        Due.is("load(24, false)", y.load(24, false), 1);
        Due.is("load(560, false)", y.load(560, false), 1);
        Due.is("load(561, false)", y.load(561, false), 12);
        // 6 at 10, 6 at 30: 132 break the weak ones; 6 bear 31 by 186.
        Seepwork z = withStrengths(10, 30);
        Due.is("load(131, false)", z.load(131, false), 0);
        Due.is("load(132, false)", z.load(132, false), 6);
        Due.is("load(185, false)", z.load(185, false), 6);
        Due.is("load(186, false)", z.load(186, false), 12);
        Due.is("load(186, false) again", z.load(186, false), 12);
        Due.is("fibre(0, 10), as a trial changes nothing", z.fibre(0, 10), 10);
        Due.outOfRange(x, "load(-1, false)", () -> x.load(-1, false));
        Due.outOfRange(x, "load(20001, false)", () -> x.load(20001, false));
        Due.outOfRange(x, "load(20001, true)", () -> x.load(20001, true));
        Due.outOfRange(x, "load(-1, true)", () -> x.load(-1, true));
    }

    private static void promise31LoadByNeighbours() {
        Seepwork x = new Seepwork();
        Due.is("load(0, true)", x.load(0, true), 0);
        Due.is("load(1211, true)", x.load(1211, true), 0);
        Due.is("load(1212, true)", x.load(1212, true), 12);
        // Each bears 7; FIBRE 0 breaks, 3 go to 11, and 4 to 1.
        Seepwork y = withStrengths(6, 11, 99, 99, 99, 99, 99, 99, 99, 99, 99, 10);
        Due.is("load(84, true), both hold", y.load(84, true), 1);
        Due.is("load(95, true), as what is left over is borne by none", y.load(95, true), 1);
        y.fibre(1, 10);
        // 1 breaks by 11: 5 go to 11 past 0, which bears 15 then, and 6 go to 2.
        y.fibre(11, 15);
        Due.is("load(84, true), 11 holds 15", y.load(84, true), 2);
        y.fibre(11, 14);
        Due.is("load(84, true), 11 breaks by 15", y.load(84, true), 3);
        // The 15 make 7 for 10, and 8 for 2 past 0 and 1, which bears 7 and 6 and 8 then.
        y.fibre(2, 21);
        Due.is("load(84, true), 2 holds 21", y.load(84, true), 3);
        y.fibre(2, 20);
        Due.is("load(84, true), 2 breaks by 21", y.load(84, true), 4);
        // Together: 5 and 6 bear 3 each; 4 gets 1 and 1, 7 gets 2 and 2.
        Seepwork z = withStrengths(99, 99, 99, 99, 99, 2, 2, 99, 99, 99, 99, 99);
        Due.is("load(36, true)", z.load(36, true), 2);
        z.fibre(7, 7);
        z.fibre(4, 5);
        Due.is("load(36, true), both hold", z.load(36, true), 2);
        z.fibre(4, 99);
        z.fibre(7, 6);
        Due.is("load(36, true), 7 breaks by 7", z.load(36, true), 3);
        z.fibre(7, 99);
        z.fibre(4, 4);
        Due.is("load(36, true), 4 breaks by 5", z.load(36, true), 3);
        oneTakesAll();
    }

    /** All but FIBRE 3 break at once by 5 each; it gets both halves of all 11, and bears 60. */
    private static void oneTakesAll() {
        Seepwork x = withStrengths(4, 4, 4, 60, 4, 4, 4, 4, 4, 4, 4, 4);
        Due.is("load(60, true)", x.load(60, true), 11);
        x.fibre(3, 59);
        Due.is("load(60, true)", x.load(60, true), 12);
        Due.is("load(60, false)", x.load(60, false), 12);
        x.fibre(3, 60);
        Due.is("load(60, false)", x.load(60, false), 11);
    }

    /** 11 is beside 0: what 0 bore goes to 11 and 1, what 11 bore to 10 and 0, and what 1 bore to 0 and 2. */
    private static void theRingCloses() {
        for (int broken : new int[] {0, 1, 11}) {
            int lower = (broken + 11) % 12;
            int higher = (broken + 1) % 12;
            // By 5 each, 2 go down and 3 go up.
            Seepwork x = withStrengths(99);
            x.fibre(broken, 4);
            x.fibre(lower, 7);
            x.fibre(higher, 8);
            Due.is("load(60, true), where " + broken + " breaks", x.load(60, true), 1);
            // What breaks behind it must find the other side strong enough.
            x.fibre(lower, 6);
            x.fibre(higher, 99);
            Due.is("load(60, true), where " + lower + " breaks too", x.load(60, true), 2);
            x.fibre(lower, 99);
            x.fibre(higher, 7);
            Due.is("load(60, true), where " + higher + " breaks too", x.load(60, true), 2);
        }
        // 11 and 0 break together: 11 gives to 10 and 1, and so does 0.
        Seepwork x = withStrengths(99);
        x.fibre(11, 4);
        x.fibre(0, 4);
        x.fibre(10, 5 + 2 + 2);
        x.fibre(1, 5 + 3 + 3);
        Due.is("load(60, true), where 11 and 0 break", x.load(60, true), 2);
        x.fibre(10, 5 + 2 + 2 - 1);
        x.fibre(1, 99);
        Due.is("load(60, true), where 10 breaks too", x.load(60, true), 3);
        x.fibre(10, 99);
        x.fibre(1, 5 + 3 + 3 - 1);
        Due.is("load(60, true), where 1 breaks too", x.load(60, true), 3);
    }

    /** All twelve break one by one; where one of them is stronger by 1, it is the first one that holds. */
    private static void oneAfterAnother() {
        // 1000 divided by 12, by 11, and so on, each less 1.
        oneByOne(1000, false, 82, 89, 99, 110, 124, 141, 165, 199, 249, 332, 499, 999);
        // 0 bears 50, 1 then 75, 2 then 88, and so on; 11 gets the lower halves of all, and bears 600 at last.
        oneByOne(600, true, 49, 74, 87, 93, 96, 98, 99, 99, 99, 99, 99, 599);
    }

    private static void oneByOne(int load, boolean isLocal, int... strengths) {
        Due.is("load(" + load + ", " + isLocal + ")", withStrengths(strengths).load(load, isLocal), 12);
        for (int fibre = 0; fibre < 12; fibre++) {
            Seepwork x = withStrengths(strengths);
            x.fibre(fibre, strengths[fibre] + 1);
            Due.is("load(" + load + ", " + isLocal + ") where " + fibre + " holds", x.load(load, isLocal), fibre);
            for (int i = 0; i < 12; i++) {
                Due.is("the STRENGTH of " + i + " behind it", x.fibre(i, 1), strengths[i] + (i == fibre ? 1 : 0));
            }
        }
    }

    /** Many rings and loads, against the second program. */
    private static void manyRings() {
        Random random = new Random(31);
        for (int ring = 0; ring < 400; ring++) {
            int most = ring % 4 == 0 ? 1000 : 5 + random.nextInt(60);
            Seepwork x = new Seepwork();
            Model model = new Model();
            int[] strengths = new int[12];
            for (int fibre = 0; fibre < 12; fibre++) {
                strengths[fibre] = 1 + random.nextInt(most);
                x.fibre(fibre, strengths[fibre]);
                model.fibre(fibre, strengths[fibre]);
            }
            for (int i = 0; i < 100; i++) {
                int load = random.nextInt(12 * most + 12);
                for (boolean isLocal : new boolean[] {false, true}) {
                    String shown = "ring " + ring + ": load(" + load + ", " + isLocal + ")";
                    Due.is(shown, x.load(load, isLocal), model.load(load, isLocal));
                }
            }
            for (int fibre = 0; fibre < 12; fibre++) {
                Due.is("the STRENGTH of " + fibre + " behind many loads", x.fibre(fibre, 1), strengths[fibre]);
            }
        }
    }

    /** How many FIBRES break by each load, tried with as many objects as are needed, each for 400 loads. */
    private static int[] broken(int[] strengths, boolean isLocal, int most) {
        int[] broken = new int[most + 1];
        Seepwork x = null;
        for (int load = 0; load <= most; load++) {
            x = load % 400 == 0 ? withStrengths(strengths) : x;
            broken[load] = x.load(load, isLocal);
        }
        return broken;
    }

    /** The least load by which all break is the one behind the last straw; returns whether a greater one breaks fewer. */
    private static boolean lastStrawIs(int[] strengths, boolean isLocal) {
        int most = 12 * (Arrays.stream(strengths).max().getAsInt() + 1);
        int[] broken = broken(strengths, isLocal, most);
        int least = 0;
        while (least <= most && broken[least] < 12) {
            least++;
        }
        Due.is("lastStraw(" + isLocal + ")", withStrengths(strengths).lastStraw(isLocal), least - 1);
        boolean isDip = false;
        for (int load = least; load <= most; load++) {
            isDip |= broken[load] < 12;
        }
        return isDip;
    }

    private static void promise32LastStraw() {
        Seepwork x = new Seepwork();
        Due.is("lastStraw(false)", x.lastStraw(false), 1211);
        Due.is("lastStraw(true)", x.lastStraw(true), 1211);
        Seepwork weak = withStrengths(1);
        Due.is("lastStraw(false)", weak.lastStraw(false), 23);
        Due.is("lastStraw(true)", weak.lastStraw(true), 23);
        Seepwork strong = withStrengths(1000);
        Due.is("lastStraw(false)", strong.lastStraw(false), 12011);
        Due.is("lastStraw(true)", strong.lastStraw(true), 12011);
        Seepwork one = withStrengths(1, 1, 1, 1, 1, 1, 1, 1, 1, 1, 1, 1000);
        Due.is("lastStraw(false)", one.lastStraw(false), 1000);
        // By q each 11 q go to the last one, which bears 12 q then: 84 each make 1008.
        Due.is("lastStraw(true)", one.lastStraw(true), 84 * 12 - 1);
        int[] lastIsStrong = {1, 1, 1, 1, 1, 1, 1, 1, 1, 1, 1, 1000};
        lastStrawIs(lastIsStrong, false);
        lastStrawIs(lastIsStrong, true);
        long z = 4711;
        for (int i = 0; i < 60; i++) {
            int[] strengths = new int[12];
            for (int fibre = 0; fibre < 12; fibre++) {
                z = (25173L * z + 13849L) % 65536L;
                strengths[fibre] = 1 + (int) (z % (i < 30 ? 60L : 1000L));
            }
            Due.is("a greater load may break fewer evenly", lastStrawIs(strengths, false), false);
            lastStrawIs(strengths, true);
        }
        aGreaterLoadMayBreakFewer();
        greaterLoadsAreNotAsked();
    }

    /** By 4 each the FIBRES break one after another all around; by 5 each both 0 and 1 break at once, and all ends at 11. */
    private static void aGreaterLoadMayBreakFewer() {
        Seepwork x = withStrengths(1, 4, 20, 10, 9, 18, 5, 9, 7, 5, 9, 5);
        Due.is("load(47, true)", x.load(47, true), 3);
        Due.is("load(48, true)", x.load(48, true), 12);
        Due.is("load(59, true)", x.load(59, true), 12);
        Due.is("load(60, true)", x.load(60, true), 3);
        Due.is("lastStraw(true)", x.lastStraw(true), 47);
    }

    /** The least load of all counts, though some greater ones leave FIBRES whole: such rings are searched for. */
    private static void greaterLoadsAreNotAsked() {
        long z = 1;
        int found = 0;
        for (int i = 0; i < 3000 && found < 3; i++) {
            int[] strengths = new int[12];
            for (int fibre = 0; fibre < 12; fibre++) {
                z = (25173L * z + 13849L) % 65536L;
                strengths[fibre] = 1 + (int) (z / 64L % 40L);
            }
            found += lastStrawIs(strengths, true) ? 1 : 0;
        }
        Due.is("rings in which a greater load breaks fewer are there", found, 3);
    }
}
