/** What the tests of the project share: it counts the answers that are not the ones that are due. */
final class Due {
    interface Call {
        void run();
    }

    private static int wrong = 0;

    private Due() {
    }

    static void is(String call, long got, long want) {
        if (got != want) {
            tell(call + " answered " + got + ", due is " + want);
        }
    }

    static void is(String call, boolean got, boolean want) {
        is(call, got ? 1 : 0, want ? 1 : 0);
    }

    static void isText(String call, String got, String want) {
        if (!got.equals(want)) {
            tell(call + " answered " + got + ", due is " + want);
        }
    }

    /** The call throws just this exception, and leaves the object as it was. */
    static void fails(Seepwork x, Class<? extends RuntimeException> due, String call, Call action) {
        String before = stateOf(x);
        String thrown = "nothing";
        try {
            action.run();
        } catch (RuntimeException e) {
            thrown = e.getClass().getName();
        }
        isText(call + " throws", thrown, due.getName());
        isText("the state behind " + call, stateOf(x), before);
    }

    static void outOfRange(Seepwork x, String call, Call action) {
        fails(x, IllegalArgumentException.class, call, action);
    }

    static void noSuch(Seepwork x, String call, Call action) {
        fails(x, IndexOutOfBoundsException.class, call, action);
    }

    static void badState(Seepwork x, String call, Call action) {
        fails(x, IllegalStateException.class, call, action);
    }

    /** All that can be asked without changing anything, or by telling what was told before. */
    static String stateOf(Seepwork x) {
        StringBuilder text = new StringBuilder();
        for (int bond = 0; bond < 60; bond++) {
            text.append(x.numberOf(Seepwork.BONDS, bond)).append(' ');
        }
        for (int site = 0; site < 36; site++) {
            int number = x.site(site, 0);
            x.site(site, number);
            text.append(number).append(' ').append(siteOf(x, site)).append(' ');
        }
        for (int fibre = 0; fibre < 12; fibre++) {
            int strength = x.fibre(fibre, 1);
            x.fibre(fibre, strength);
            text.append(strength).append(' ');
        }
        for (int what = 0; what <= 4; what++) {
            text.append(x.count(what)).append(' ');
        }
        return text.append(x.trapped(true)).append(' ').append(x.trapped(false)).toString();
    }

    private static String siteOf(Seepwork x, int site) {
        if (x.shut(site, false)) {
            x.shut(site, true);
            return "shut";
        }
        boolean isWet = x.wet(site, false);
        x.wet(site, isWet);
        return isWet ? "wet" : "dry";
    }

    static void end() {
        System.out.println(wrong == 0 ? "all answers are as due" : wrong + " answers are not as due");
        if (wrong != 0) {
            System.exit(1);
        }
    }

    static void tell(String message) {
        wrong++;
        System.out.println(message);
    }
}
