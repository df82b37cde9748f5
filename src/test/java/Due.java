/** What the tests of the project share: it counts the answers that are not the ones that are due. */
final class Due {
    interface Call {
        void run();
    }

    private static int wrong = 0;
    // What is being tested, if that is told.
    private static String place = "";

    private Due() {
    }

    static void is(String call, long got, long want) {
        if (got != want) {
            tell(call + " answered " + got + ", due is " + want);
        }
    }

    static void is(String call, boolean got, boolean want) {
        is(call, got ? 1 : 0, want ? 1 : 0);
    }

    static void isText(String call, String got, String want) {
        if (!got.equals(want)) {
            tell(call + " answered " + got + ", due is " + want);
        }
    }

    /**
     * The call throws just this exception, and leaves what can be counted as it was. RefusalsTest looks at all of the
     * state; here that would take more calls than an object is used for.
     */
    static void fails(Seepwork x, Class<? extends RuntimeException> due, String call, Call action) {
        String before = countsOf(x);
        isText(call + " throws", thrownBy(action), due.getName());
        isText("the counts behind " + call, countsOf(x), before);
    }

    static String thrownBy(Call action) {
        try {
            action.run();
            return "nothing";
        } catch (RuntimeException e) {
            return e.getClass().getName();
        }
    }

    static void outOfRange(Seepwork x, String call, Call action) {
        fails(x, IllegalArgumentException.class, call, action);
    }

    static void noSuch(Seepwork x, String call, Call action) {
        fails(x, IndexOutOfBoundsException.class, call, action);
    }

    static void badState(Seepwork x, String call, Call action) {
        fails(x, IllegalStateException.class, call, action);
    }

    private static String countsOf(Seepwork x) {
        StringBuilder text = new StringBuilder();
        for (int what = 0; what <= 4; what++) {
            text.append(x.count(what)).append(' ');
        }
        return text.toString();
    }

    static void end() {
        System.out.println(wrong == 0 ? "all answers are as due" : wrong + " answers are not as due");
        if (wrong != 0) {
            System.exit(1);
        }
    }

    /** From now on the messages begin so. */
    static void at(String told) {
        place = told;
    }

    static void tell(String message) {
        wrong++;
        System.out.println(place + message);
    }
}
