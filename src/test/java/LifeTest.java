import java.util.ArrayList;
import java.util.List;
import java.util.Random;

/**
 * An object is used for at most 512 calls: behind as many others that change nothing, questions and refused ones, the last
 * one is answered as the first one was, and the object holds what it held.
 */
public final class LifeTest {
    private static final int CALLS = 512;
    private static final int CALLS_OF_PROBE = 333;

    /** A call that changes nothing, with its arguments. */
    private static final class Idle {
        final Row row;
        final int[] a;

        Idle(Row row, int[] a) {
            this.row = row;
            this.a = a;
        }
    }

    private final Start start;
    private final List<Idle> questions = new ArrayList<>();
    private final List<Idle> refused = new ArrayList<>();
    private final Random random;

    private LifeTest(Start start) {
        this.start = start;
        random = new Random(start.ordinal());
        for (Row[] part : Rows.ALL) {
            for (Row row : part) {
                for (int[] a : row.trials()) {
                    sort(row, a);
                }
            }
        }
    }

    public static void main(String[] args) {
        for (Start start : Start.values()) {
            LifeTest test = new LifeTest(start);
            for (Row[] part : Rows.ALL) {
                for (Row row : part) {
                    test.lastCallIsAsTheFirst(row);
                    test.oneQuestionAllAlong(row);
                }
            }
            for (int i = 0; i < 20; i++) {
                test.stateStays();
            }
        }
        eachCallIsTheLast();
        Due.end();
    }

    private void sort(Row row, int[] a) {
        boolean isAnswered = row.due(start, a).equals("nothing");
        if (!isAnswered) {
            refused.add(new Idle(row, a));
        } else if (row.isQuestion) {
            questions.add(new Idle(row, a));
        }
    }

    /** Asks so many calls that change nothing. */
    private void idle(Seepwork x, int calls) {
        for (int i = 0; i < calls; i++) {
            List<Idle> some = random.nextInt(3) == 0 ? refused : questions;
            Idle one = some.get(random.nextInt(some.size()));
            Due.isText("idle " + one.row.shown(start, one.a) + " throws", Due.thrownBy(() -> one.row.call.on(x, one.a)),
                    one.row.due(start, one.a));
        }
    }

    private void lastCallIsAsTheFirst(Row row) {
        List<int[]> answered = new ArrayList<>();
        for (int[] a : row.trials()) {
            if (row.due(start, a).equals("nothing")) {
                answered.add(a);
            }
        }
        if (answered.isEmpty()) {
            return;
        }
        int[] a = answered.get(random.nextInt(answered.size()));
        Seepwork x = start.make();
        idle(x, CALLS - 1 - start.calls);
        Due.is("as the call 512, " + row.shown(start, a), row.call.on(x, a), row.call.on(start.make(), a));
    }

    /** One object is asked nothing else, and answers as objects do that are asked for the first time. */
    private void oneQuestionAllAlong(Row row) {
        List<int[]> asked = new ArrayList<>();
        for (Idle one : questions) {
            if (one.row == row) {
                asked.add(one.a);
            }
        }
        Seepwork x = start.make();
        for (int i = 0; i < CALLS - start.calls && !asked.isEmpty(); i++) {
            int[] a = asked.get(i % asked.size());
            Due.is("as the call " + (start.calls + i + 1) + ", " + row.shown(start, a), row.call.on(x, a),
                    row.call.on(start.make(), a));
        }
    }

    private void stateStays() {
        Seepwork x = start.make();
        idle(x, CALLS - CALLS_OF_PROBE - start.calls);
        Due.isText(start + ": the state behind many calls that change nothing", Probe.of(x), Probe.of(start.make()));
    }

    /** Changes that are made again and again, up to the last call. */
    private static void eachCallIsTheLast() {
        Seepwork bonds = new Seepwork();
        Seepwork shut = new Seepwork();
        Seepwork oil = new Seepwork();
        Model model = new Model();
        Seepwork letters = new Seepwork();
        for (int i = 1; i <= CALLS; i++) {
            boolean isOdd = i % 2 == 1;
            Due.is("bond(59, " + i + "), the call " + i, bonds.bond(59, i), i - 1);
            Due.is("shut(35, " + isOdd + "), the call " + i, shut.shut(35, isOdd), !isOdd);
            Due.is("drain(1) or soak(0), the call " + i, isOdd ? oil.drain(1) : oil.soak(0),
                    isOdd ? model.drain(1) : model.soak(0));
            Due.is("type('a') or wipe(), the call " + i, isOdd ? letters.type('a') : letters.wipe(), 1);
        }
    }
}
