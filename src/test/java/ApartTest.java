import java.util.ArrayList;
import java.util.List;

/**
 * What a call does not speak of does not matter for its answer: by the KIND SITES the NUMBERS of BONDS, for times those of
 * SITES, for FIBRES all but the STRENGTHS, and so on.
 */
public final class ApartTest {
    // What a method reads: B and S the NUMBERS of BONDS and of SITES, K those of its KIND, X what is SHUT, W the WET ones,
    // T the TREES and their draw, O the oil, F the STRENGTHS, N the NAME; C what it counts.
    private static final String[] READS = {
        "seed", "", "bond", "B", "site", "S", "numberOf", "K", "shut", "X", "strike", "X",
        "cluster", "KX", "sizes", "KX", "spans", "KX", "edge", "KX", "edgeAnew", "KX", "ways", "KX", "cut", "KX",
        "red", "KX", "shortest", "KX",
        "polynomial", "", "chance", "", "pivots", "",
        "time", "BX", "ball", "BX", "rival", "BX", "invade", "BX", "invaded", "BX",
        "wet", "WX", "filled", "WX", "leastWet", "", "grow", "TX", "lightning", "T",
        "fibre", "F", "load", "F", "lastStraw", "F",
        "drain", "SXO", "soak", "SXO", "trapped", "XO",
        "scale", "", "estimate", "X", "type", "N", "wipe", "N", "measure", "KXN", "count", "C",
    };

    /** Something that changes these parts of an object, and no others. */
    private enum Stir {
        BONDS("B") {
            @Override
            void on(Seepwork x) {
                for (int bond = 0; bond < 60; bond++) {
                    x.bond(bond, (377 * bond + 11) % 1000);
                }
            }
        },
        SITES("S") {
            @Override
            void on(Seepwork x) {
                for (int site = 0; site < 36; site++) {
                    x.site(site, (531 * site + 7) % 1000);
                }
            }
        },
        SHUT("XTWO") {
            @Override
            void on(Seepwork x) {
                for (int site : new int[] {7, 9, 35}) {
                    x.shut(site, false);
                }
                for (int site = 1; site < 36; site += 6) {
                    x.shut(site, true);
                }
            }
        },
        WET("W") {
            @Override
            void on(Seepwork x) {
                // None of these is SHUT there.
                for (int site = 0; site < 36; site += 2) {
                    x.wet(site, site % 4 == 2);
                }
            }
        },
        TREES("T") {
            @Override
            void on(Seepwork x) {
                x.grow(33);
            }
        },
        OIL("O") {
            @Override
            void on(Seepwork x) {
                x.drain(1000);
            }
        },
        STRENGTHS("F") {
            @Override
            void on(Seepwork x) {
                for (int fibre = 0; fibre < 12; fibre++) {
                    x.fibre(fibre, 7 + 61 * fibre);
                }
            }
        },
        NAME("N") {
            @Override
            void on(Seepwork x) {
                x.wipe();
                Start.typeName(x, "red");
            }
        };

        final String parts;

        Stir(String parts) {
            this.parts = parts;
        }

        abstract void on(Seepwork x);
    }

    public static void main(String[] args) {
        for (Row[] part : Rows.ALL) {
            for (Row row : part) {
                for (Stir stir : Stir.values()) {
                    isApart(row, stir);
                }
            }
        }
        Due.end();
    }

    private static String readsOf(Row row, int[] a) {
        String reads = null;
        for (int i = 0; i < READS.length; i += 2) {
            reads = READS[i].equals(row.method) ? READS[i + 1] : reads;
        }
        if (reads == null) {
            Due.tell("it is not told what " + row.method + "() reads");
            return "BSXTWOFN";
        }
        if (reads.startsWith("K")) {
            return new String[] {"B", "S", "BS"}[a[0]] + reads.substring(1);
        }
        return reads.equals("C") ? "XTWON".substring(a[0], a[0] + 1) : reads;
    }

    /** What a call does not read is stirred, and it answers as if it were not. */
    private static void isApart(Row row, Stir stir) {
        List<int[]> trials = new ArrayList<>();
        for (int[] a : row.trials()) {
            boolean isAnswered = row.due(Start.MIXED, a).equals("nothing");
            if (isAnswered && !readsAny(readsOf(row, a), stir.parts)) {
                trials.add(a);
            }
        }
        // A question changes nothing, so all may be asked of the same two objects; behind a change they are made anew.
        Seepwork still = Start.MIXED.make();
        Seepwork stirred = stirred(stir);
        for (int[] a : trials) {
            Due.is(row.shown(Start.MIXED, a) + " where " + stir + " is stirred", row.call.on(stirred, a),
                    row.call.on(still, a));
            if (!row.isQuestion) {
                still = Start.MIXED.make();
                stirred = stirred(stir);
            }
        }
    }

    private static boolean readsAny(String reads, String parts) {
        for (char part : parts.toCharArray()) {
            if (reads.indexOf(part) >= 0) {
                return true;
            }
        }
        return false;
    }

    private static Seepwork stirred(Stir stir) {
        Seepwork x = Start.MIXED.make();
        stir.on(x);
        return x;
    }
}
