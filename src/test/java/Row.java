import java.util.ArrayList;
import java.util.List;
import java.util.TreeSet;

/** A method of the face, with the bounds of its arguments and what else it refuses, as the document lists them. */
final class Row {
    interface Call {
        long on(Seepwork x, int[] a);
    }

    interface Misfit {
        boolean isIn(int[] a);
    }

    interface Hindrance {
        boolean isIn(Start start, int[] a);
    }

    /** An argument from least to most; outside, an index throws another exception than all others do. */
    static class Argument {
        final int least;
        final int most;
        final boolean isIndex;

        Argument(int least, int most, boolean isIndex) {
            this.least = least;
            this.most = most;
            this.isIndex = isIndex;
        }

        boolean takes(int value) {
            return value >= least && value <= most;
        }

        /** The bounds, what is next to them on both sides, one between them, and the farthest values that there are. */
        TreeSet<Integer> trials() {
            TreeSet<Integer> trials = new TreeSet<>();
            trials.add(Integer.MIN_VALUE);
            trials.add(Integer.MAX_VALUE);
            trials.add((least + most) / 2);
            for (int step = -1; step <= 1; step++) {
                trials.add(least + step);
                trials.add(most + step);
            }
            return trials;
        }
    }

    final String method;
    final boolean isQuestion;
    final Argument[] arguments;
    final Call call;
    private Misfit misfit = a -> false;
    private Hindrance hindrance = (start, a) -> false;

    private Row(String method, boolean isQuestion, Call call, Argument[] arguments) {
        this.method = method;
        this.isQuestion = isQuestion;
        this.call = call;
        this.arguments = arguments;
    }

    static Row question(String method, Call call, Argument... arguments) {
        return new Row(method, true, call, arguments);
    }

    static Row change(String method, Call call, Argument... arguments) {
        return new Row(method, false, call, arguments);
    }

    static Argument index(int count) {
        return new Argument(0, count - 1, true);
    }

    static Argument range(int least, int most) {
        return new Argument(least, most, false);
    }

    /** A boolean, of which both values are taken. */
    static Argument flag() {
        return new Argument(0, 1, false) {
            @Override
            TreeSet<Integer> trials() {
                return new TreeSet<>(List.of(0, 1));
            }
        };
    }

    /** What is refused with an IllegalArgumentException though each argument is in its range. */
    Row misfits(Misfit told) {
        misfit = told;
        return this;
    }

    /** What is refused with an IllegalStateException. */
    Row hindered(Hindrance told) {
        hindrance = told;
        return this;
    }

    /** The exception that is due, or "nothing": IndexOutOfBoundsException is listed first everywhere, then the range. */
    String due(Start start, int[] a) {
        boolean isMissing = false;
        boolean isOutside = false;
        for (int i = 0; i < a.length; i++) {
            boolean isTaken = arguments[i].takes(a[i]);
            isMissing |= !isTaken && arguments[i].isIndex;
            isOutside |= !isTaken && !arguments[i].isIndex;
        }
        if (isMissing) {
            return "java.lang.IndexOutOfBoundsException";
        }
        if (isOutside || misfit.isIn(a)) {
            return "java.lang.IllegalArgumentException";
        }
        return hindrance.isIn(start, a) ? "java.lang.IllegalStateException" : "nothing";
    }

    /** All ways to put the trials of the arguments together. */
    List<int[]> trials() {
        List<int[]> all = new ArrayList<>();
        all.add(new int[0]);
        for (Argument argument : arguments) {
            List<int[]> longer = new ArrayList<>();
            for (int[] one : all) {
                for (int value : argument.trials()) {
                    int[] more = java.util.Arrays.copyOf(one, one.length + 1);
                    more[one.length] = value;
                    longer.add(more);
                }
            }
            all = longer;
        }
        return all;
    }

    String shown(Start start, int[] a) {
        StringBuilder text = new StringBuilder(start + ": " + method + "(");
        for (int i = 0; i < a.length; i++) {
            text.append(i == 0 ? "" : ", ").append(a[i]);
        }
        return text.append(')').toString();
    }
}
