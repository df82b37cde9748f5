/** All that an object holds, drawn out of it by 333 calls; they change it, so it is spent behind them. */
final class Probe {
    private final Seepwork x;
    private final StringBuilder text = new StringBuilder();

    private Probe(Seepwork x) {
        this.x = x;
    }

    static String of(Seepwork x) {
        Probe probe = new Probe(x);
        probe.counts();
        probe.numbersOfBonds();
        probe.strengths();
        for (int site = 0; site < 36; site++) {
            probe.drawOut(site);
        }
        probe.nextTree();
        return probe.text.toString();
    }

    private void counts() {
        for (int what = 0; what <= 4; what++) {
            put(x.count(what));
        }
        put(x.trapped(true));
        put(x.trapped(false));
        // The letters of the NAME show in this alone.
        try {
            put(x.measure(Seepwork.BONDS, 700));
        } catch (IllegalStateException e) {
            text.append("none ");
        }
    }

    private void numbersOfBonds() {
        for (int bond = 0; bond < 60; bond++) {
            put(x.numberOf(Seepwork.BONDS, bond));
        }
    }

    private void strengths() {
        for (int fibre = 0; fibre < 12; fibre++) {
            put(x.fibre(fibre, 1));
        }
    }

    /** A SITE that becomes SHUT loses its TREE and its oil, so how many are left tells whether it had them. */
    private void drawOut(int site) {
        put(x.site(site, 0));
        try {
            text.append(x.wet(site, false) ? "wet " : "dry ");
        } catch (IllegalStateException e) {
            text.append("closed ");
        }
        text.append(x.shut(site, true) ? "shut " : "open ");
        put(x.count(1));
        put(x.count(3));
    }

    /** Where the next TREE stands tells of the draw. */
    private void nextTree() {
        for (int site = 0; site < 36; site++) {
            x.shut(site, false);
        }
        put(x.grow(1));
        for (int site = 0; site < 36; site++) {
            put(x.lightning(site));
        }
    }

    private void put(long answer) {
        text.append(answer).append(' ');
    }
}
