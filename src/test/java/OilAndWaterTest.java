/** Promises 33 to 35. */
public final class OilAndWaterTest {
    public static void main(String[] args) {
        promise33Drain();
        promise34Soak();
        promise35Trapped();
        Due.end();
    }

    /** All SITES have the NUMBER 900, but for the given ones, which have 100. */
    private static Seepwork withLow(int... sites) {
        Seepwork x = new Seepwork();
        for (int site = 0; site < 36; site++) {
            x.site(site, 900);
        }
        for (int site : sites) {
            x.site(site, 100);
        }
        return x;
    }

    private static void promise33Drain() {
        Seepwork x = withLow(0, 1, 2, 8, 15, 22, 23, 30);
        Due.is("drain(0)", x.drain(0), 0);
        Due.is("drain(100)", x.drain(100), 0);
        // 15 is only at a corner of 8.
        Due.is("drain(101)", x.drain(101), 5);
        Due.is("drain(101) again", x.drain(101), 5);
        Due.is("drain(50), as oil stays", x.drain(50), 5);
        Due.is("count(3)", x.count(3), 5);
        x.site(9, 100);
        // 9, 15; 22 is at a corner again.
        Due.is("drain(101)", x.drain(101), 7);
        x.shut(2, true);
        x.site(21, 100);
        // Oil at 8, 9 and 15 hangs no more: 2 was its way, so 21 gets none.
        Due.is("drain(101) behind a SHUT one", x.drain(101), 6);
        Due.is("trapped(true)", x.trapped(true), 3);
        waterIsTrapped();
        theLowestGoesFirst();
        Seepwork all = new Seepwork();
        Due.is("drain(1) over NUMBERS 0", all.drain(1) > 0, true);
        Seepwork high = withLow();
        high.site(0, 999);
        Due.is("drain(1000)", high.drain(1000) > 0, true);
        for (int pressure : new int[] {-1, 1001}) {
            Due.outOfRange(x, "drain(" + pressure + ")", () -> x.drain(pressure));
            Due.outOfRange(x, "soak(" + pressure + ")", () -> x.soak(pressure));
        }
    }

    /** Water that oil has cut off from the right does not leave, though its NUMBER is low. */
    private static void waterIsTrapped() {
        // Oil goes along the row of 6, down to the bottom in column 3, and so shuts in what is left of that.
        Seepwork x = withLow(0, 6, 7, 8, 9, 3, 15, 21, 27, 33);
        x.site(3, 900);
        Due.is("drain(200)", x.drain(200), 9);
        Due.is("trapped(false)", x.trapped(false), 12);
        x.site(12, 100);
        Due.is("drain(200), where 12 is trapped", x.drain(200), 9);
        x.site(4, 100);
        x.site(3, 100);
        Due.is("drain(200), where 3 and 4 are not", x.drain(200), 11);
    }

    /** Each SITE that gets oil may trap the next ones: over NUMBERS 0 the oil runs along the rows from the top. */
    private static void theLowestGoesFirst() {
        Seepwork x = new Seepwork();
        Due.is("drain(1)", x.drain(1), 36);
        Seepwork y = withLow(18, 19, 20, 14, 15, 26, 27, 16, 17, 28, 29, 11, 35, 22, 23);
        // From 20 by 14 to 17 first; then the lower arm 26 to 29, then 22, 23 by 16.
        Due.is("drain(101)", y.drain(101), 15);
        Seepwork z = withLow(0, 1, 2, 3, 4, 5, 11, 12, 13, 14, 15, 16, 17, 10);
        // The top row and 11 and 10 go first; 17 has water that hangs; 6 to 9 stay, shut in by the row of 12 at last.
        Due.is("drain(101)", z.drain(101), 14);
        Due.is("trapped(false)", z.trapped(false), 4);
    }

    private static void promise34Soak() {
        Seepwork x = withLow(0, 1, 2, 8);
        Due.is("soak(0) with no oil", x.soak(0), 0);
        Due.is("drain(101)", x.drain(101), 4);
        Due.is("soak(101), as all are below", x.soak(101), 4);
        Due.is("soak(1000)", x.soak(1000), 4);
        x.site(2, 500);
        Due.is("soak(501)", x.soak(501), 4);
        Due.is("soak(500) takes 2, and so leaves 8 trapped", x.soak(500), 3);
        Due.is("trapped(true)", x.trapped(true), 1);
        // 0 goes first, and leaves 1 trapped too.
        Due.is("soak(0) takes 0", x.soak(0), 2);
        Due.is("trapped(true)", x.trapped(true), 2);
        Due.is("trapped(false)", x.trapped(false), 0);
        Due.is("drain(101) brings 0 back", x.drain(101), 3);
        Due.is("trapped(true)", x.trapped(true), 1);
        // With 2 it hangs again.
        Due.is("drain(501)", x.drain(501), 4);
        Due.is("trapped(true)", x.trapped(true), 0);
        theRightColumnIsThereAlways();
        trappedWaterPushesNothing();
    }

    /** A SITE of the right column gets water though none is beside it. */
    private static void theRightColumnIsThereAlways() {
        Seepwork x = withLow(0, 1, 2, 3, 4, 5);
        Due.is("drain(101)", x.drain(101), 6);
        for (int site = 6; site < 12; site++) {
            x.shut(site, true);
        }
        x.site(5, 99);
        Due.is("soak(100), held up at 5", x.soak(100), 6);
        x.site(5, 100);
        Due.is("soak(100)", x.soak(100), 0);
    }

    /** Shut-in water beside oil does not hang on the right, so it pushes nothing. */
    private static void trappedWaterPushesNothing() {
        Seepwork x = withLow(0, 6, 7, 8, 9, 15, 21, 27, 33);
        Due.is("drain(200)", x.drain(200), 9);
        Due.is("trapped(false)", x.trapped(false), 12);
        for (int site = 0; site < 36; site++) {
            if (site % 6 == 4) {
                x.shut(site, true);
            }
        }
        Due.is("trapped(false), all left of a wall", x.trapped(false), 15);
        Due.is("soak(0)", x.soak(0), 9);
    }

    private static void promise35Trapped() {
        Seepwork x = new Seepwork();
        Due.is("trapped(false)", x.trapped(false), 0);
        x.shut(4, true);
        x.shut(11, true);
        Due.is("trapped(false), 5 alone", x.trapped(false), 0);
        x.shut(17, true);
        x.shut(23, true);
        x.shut(29, true);
        Due.is("trapped(false), by 35 still", x.trapped(false), 0);
        x.shut(35, true);
        Due.is("trapped(false), all but 5", x.trapped(false), 29);
        Due.is("trapped(true)", x.trapped(true), 0);
        x.shut(35, false);
        Due.is("trapped(false)", x.trapped(false), 0);
        Seepwork y = withLow(0, 1);
        y.drain(101);
        Due.is("trapped(true)", y.trapped(true), 0);
        y.shut(0, true);
        Due.is("trapped(true), 1 alone", y.trapped(true), 1);
        Due.is("count(3)", y.count(3), 1);
        y.shut(0, false);
        Due.is("trapped(true), as 0 has water now", y.trapped(true), 1);
    }
}
