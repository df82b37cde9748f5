import java.util.Random;

/**
 * Long runs of calls, ordinary and wrong ones, each asked of Seepwork and of Model, the slow second program.
 * An argument tells how many runs, if more than a few are wanted.
 */
public final class ModelTest {
    private static final int RUNS = 40;
    private static final int CALLS = 512;
    // A NAME is wiped, typed and measured by so many calls at most.
    private static final int MOST_CALLS_AT_ONCE = 6;
    private static final int CALLS_AT_THE_END = 60 + 12 + 5 * 36;
    private static final int KINDS_OF_CALLS = 37;
    private static final String[] NAMES = {"many", "size", "span", "cut", "red", "way", "x"};

    private final Random random;
    private final Seepwork work = new Seepwork();
    private final Model model = new Model();
    private final int evenness;
    private StringBuilder call;
    private int calls;

    private interface Asked {
        long answer();
    }

    private ModelTest(long seed) {
        random = new Random(seed);
        // Few NUMBERS make many ties, many make few.
        evenness = new int[] {1, 50, 250, 999}[(int) (seed / 2 % 4)];
    }

    public static void main(String[] args) {
        int runs = args.length == 1 ? Integer.parseInt(args[0]) : RUNS;
        for (int run = 0; run < runs; run++) {
            ModelTest test = new ModelTest(run);
            // Each other run is a long one; the rest ask for all that is left in the end.
            int most = run % 2 == 0 ? CALLS : CALLS - CALLS_AT_THE_END;
            while (test.calls + MOST_CALLS_AT_ONCE <= most) {
                test.askOnce(run);
            }
            if (run % 2 == 1) {
                test.askForAll(run);
            }
        }
        Due.end();
    }

    private void askOnce(int run) {
        call = new StringBuilder("run " + run + ": ");
        int which = random.nextInt(KINDS_OF_CALLS);
        if (which < 9) {
            askOfSites(which);
        } else if (which < 19) {
            askOfThresholds(which);
        } else if (which < 29) {
            askOfTimesAndWoods(which);
        } else {
            askOfTheRest(which);
        }
    }

    /** A SITE that becomes SHUT loses its TREE and its oil, so how many are left tells whether it had them. */
    private void askForAll(int run) {
        call = new StringBuilder("run " + run + ", in the end: ");
        for (int i = 0; i < 60; i++) {
            int bond = i;
            compare(() -> work.numberOf(0, bond), () -> model.numberOf(0, bond));
        }
        for (int i = 0; i < 12; i++) {
            int fibre = i;
            compare(() -> work.fibre(fibre, 1), () -> model.fibre(fibre, 1));
        }
        for (int i = 0; i < 36; i++) {
            int site = i;
            compare(() -> work.site(site, 0), () -> model.site(site, 0));
            compare(() -> bit(work.wet(site, false)), () -> bit(model.wet(site, false)));
            compare(() -> bit(work.shut(site, true)), () -> bit(model.shut(site, true)));
            compare(() -> work.count(1), () -> model.count(1));
            compare(() -> work.count(3), () -> model.count(3));
        }
    }

    private void compare(Asked got, Asked due) {
        calls++;
        String answered = answerOf(got);
        String wanted = answerOf(due);
        if (!answered.equals(wanted)) {
            Due.tell(call + " answered " + answered + ", due is " + wanted);
        }
    }

    private static String answerOf(Asked asked) {
        try {
            return Long.toString(asked.answer());
        } catch (RuntimeException e) {
            return e.getClass().getName();
        }
    }

    /** An argument from least to most, now and then one just outside, or far outside. */
    private int argument(int least, int most) {
        int value = least + random.nextInt(most - least + 1);
        int luck = random.nextInt(120);
        if (luck == 0) {
            value = least - 1;
        } else if (luck == 1) {
            value = most + 1;
        } else if (luck == 2) {
            value = random.nextInt();
        } else if (luck < 6) {
            value = random.nextBoolean() ? least : most;
        }
        call.append(' ').append(value);
        return value;
    }

    private int number() {
        int value = argument(0, 999);
        return value >= 0 && value < 999 ? value / evenness * evenness : value;
    }

    private int threshold() {
        return random.nextInt(4) == 0 ? argument(0, 1000) : argument(350, 900);
    }

    private boolean flag() {
        boolean value = random.nextBoolean();
        call.append(' ').append(value);
        return value;
    }

    private static long bit(boolean isTrue) {
        return isTrue ? 1 : 0;
    }

    private void askOfSites(int which) {
        call.append("sites ").append(which);
        switch (which) {
            case 0: {
                if (random.nextInt(4) == 0) {
                    int z = argument(0, 65535);
                    compare(() -> { work.seed(z); return 0; }, () -> { model.seed(z); return 0; });
                }
                break;
            }
            case 1: {
                int bond = argument(0, 59);
                int number = number();
                compare(() -> work.bond(bond, number), () -> model.bond(bond, number));
                break;
            }
            case 2: {
                int site = argument(0, 35);
                int number = number();
                compare(() -> work.site(site, number), () -> model.site(site, number));
                break;
            }
            case 3: {
                int kind = argument(0, 2);
                int bond = argument(0, 59);
                compare(() -> work.numberOf(kind, bond), () -> model.numberOf(kind, bond));
                break;
            }
            case 4: {
                int site = argument(0, 35);
                boolean isShut = random.nextInt(3) == 0;
                call.append(' ').append(isShut);
                compare(() -> bit(work.shut(site, isShut)), () -> bit(model.shut(site, isShut)));
                break;
            }
            case 5: {
                int n = random.nextInt(40) == 0 ? argument(0, 36) : argument(0, 1);
                compare(() -> work.strike(n), () -> model.strike(n));
                break;
            }
            default: {
                // So many stay open that there is something to span.
                int site = argument(0, 35);
                compare(() -> bit(work.shut(site, false)), () -> bit(model.shut(site, false)));
            }
        }
    }

    private void askOfThresholds(int which) {
        call.append("thresholds ").append(which);
        int kind = argument(0, 2);
        int p = threshold();
        switch (which) {
            case 9: {
                int site = argument(0, 35);
                compare(() -> work.cluster(kind, p, site), () -> model.cluster(kind, p, site));
                break;
            }
            case 10: {
                int what = argument(0, 2);
                compare(() -> work.sizes(kind, p, what), () -> model.sizes(kind, p, what));
                break;
            }
            case 11: {
                boolean isDown = flag();
                compare(() -> bit(work.spans(kind, p, isDown)), () -> bit(model.spans(kind, p, isDown)));
                break;
            }
            case 12: {
                boolean isDown = flag();
                compare(() -> work.edge(kind, isDown), () -> model.edge(kind, isDown));
                break;
            }
            case 13: {
                boolean isDown = flag();
                compare(() -> work.edgeAnew(kind, isDown), () -> model.edge(kind, isDown));
                break;
            }
            case 14:
                compare(() -> work.ways(kind, p), () -> model.ways(kind, p));
                break;
            case 15:
                compare(() -> work.cut(kind, p), () -> model.ways(kind, p));
                break;
            case 16:
                compare(() -> work.red(kind, p), () -> model.red(kind, p));
                break;
            case 17:
                compare(() -> work.shortest(kind, p), () -> model.shortest(kind, p));
                break;
            default:
                if (random.nextInt(8) == 0) {
                    int n = argument(1, 30);
                    compare(() -> work.estimate(kind, p, n), () -> model.estimate(kind, p, n));
                }
        }
    }

    private void askOfTimesAndWoods(int which) {
        call.append("times, woods ").append(which);
        int site = argument(0, 35);
        switch (which) {
            case 19: {
                int to = argument(0, 35);
                compare(() -> work.time(site, to), () -> model.time(site, to));
                break;
            }
            case 20: {
                int time = random.nextInt(9) == 0 ? argument(0, 60000) : argument(0, 4000);
                compare(() -> work.ball(site, time), () -> model.ball(site, time));
                break;
            }
            case 21: {
                int other = random.nextInt(30) == 0 ? site : argument(0, 35);
                int to = argument(0, 35);
                compare(() -> work.rival(site, other, to), () -> model.rival(site, other, to));
                break;
            }
            case 22: {
                int n = argument(0, 35);
                compare(() -> work.invade(site, n), () -> model.invade(site, n));
                break;
            }
            case 23: {
                int n = argument(0, 35);
                compare(() -> work.invaded(site, n), () -> model.invaded(site, n));
                break;
            }
            case 24: {
                boolean isWet = flag();
                compare(() -> bit(work.wet(site, isWet)), () -> bit(model.wet(site, isWet)));
                break;
            }
            case 25: {
                int k = argument(1, 4);
                int what = argument(0, 1);
                compare(() -> work.filled(k, what), () -> model.filled(k, what));
                break;
            }
            case 26: {
                int n = random.nextInt(20) == 0 ? argument(1, 200) : argument(1, 9);
                compare(() -> work.grow(n), () -> model.grow(n));
                break;
            }
            case 27:
                compare(() -> work.lightning(site), () -> model.lightning(site));
                break;
            default: {
                int w = argument(1, 4);
                int h = argument(1, 4);
                int k = argument(1, 4);
                if (random.nextInt(8) == 0) {
                    compare(() -> work.leastWet(w, h, k), () -> model.leastWet(w, h, k));
                }
            }
        }
    }

    private void askOfTheRest(int which) {
        call.append("the rest ").append(which);
        boolean isFirst = flag();
        switch (which) {
            case 29: {
                int fibre = argument(0, 11);
                int strength = 1 + number();
                compare(() -> work.fibre(fibre, strength), () -> model.fibre(fibre, strength));
                break;
            }
            case 30: {
                int load = argument(0, random.nextBoolean() ? 20000 : 6000);
                compare(() -> work.load(load, isFirst), () -> model.load(load, isFirst));
                break;
            }
            case 31:
                if (random.nextInt(8) == 0) {
                    compare(() -> work.lastStraw(isFirst), () -> model.lastStraw(isFirst));
                }
                break;
            case 32: {
                int pressure = argument(0, 1000);
                compare(() -> work.drain(pressure), () -> model.drain(pressure));
                break;
            }
            case 33: {
                int pressure = argument(0, 1000);
                compare(() -> work.soak(pressure), () -> model.soak(pressure));
                break;
            }
            case 34:
                compare(() -> work.trapped(isFirst), () -> model.trapped(isFirst));
                break;
            case 35:
                askOfName();
                break;
            default: {
                int what = argument(0, 4);
                compare(() -> work.count(what), () -> model.count(what));
            }
        }
    }

    private void askOfName() {
        if (random.nextInt(3) == 0) {
            int letter = argument(97, 122);
            compare(() -> work.type(letter), () -> model.type(letter));
            return;
        }
        compare(work::wipe, model::wipe);
        String name = NAMES[random.nextInt(NAMES.length)];
        for (char letter : name.toCharArray()) {
            compare(() -> work.type(letter), () -> model.type(letter));
        }
        int kind = argument(0, 2);
        int p = threshold();
        compare(() -> work.measure(kind, p), () -> model.measure(kind, p));
    }
}
