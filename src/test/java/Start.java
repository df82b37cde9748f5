/** Objects to begin with: each is made anew by the same few calls, so that two of them are alike. */
enum Start {
    NEW(0) {
        @Override
        void prepare(Seepwork x) {
            // It is as it was made.
        }

        @Override
        boolean isShut(int site) {
            return false;
        }
    },

    /** Some of everything. */
    MIXED(13) {
        @Override
        void prepare(Seepwork x) {
            x.seed(777);
            for (int site : new int[] {7, 9, 35}) {
                x.shut(site, true);
            }
            x.wet(0, true);
            x.wet(14, true);
            x.grow(30);
            x.drain(600);
            x.fibre(0, 1);
            x.fibre(11, 1000);
            typeName(x, "cut");
        }

        @Override
        boolean isShut(int site) {
            return site == 7 || site == 9 || site == 35;
        }

        @Override
        boolean hasMeasure() {
            return true;
        }
    },

    ALL_SHUT(2) {
        @Override
        void prepare(Seepwork x) {
            x.seed(31);
            x.strike(36);
        }

        @Override
        boolean isShut(int site) {
            return true;
        }
    },

    /** Everything that can be full: TREES, WET SITES and oil everywhere, and 8 letters. */
    FULL(65) {
        @Override
        void prepare(Seepwork x) {
            for (int site = 0; site < 36; site++) {
                x.wet(site, true);
            }
            growAll(x);
            x.drain(1);
            typeName(x, "measures");
        }

        @Override
        boolean isShut(int site) {
            return false;
        }

        @Override
        boolean hasEightLetters() {
            return true;
        }
    };

    /** How many calls it takes to prepare it. */
    final int calls;

    Start(int calls) {
        this.calls = calls;
    }

    abstract void prepare(Seepwork x);

    abstract boolean isShut(int site);

    boolean hasMeasure() {
        return false;
    }

    boolean hasEightLetters() {
        return false;
    }

    Seepwork make() {
        Seepwork x = new Seepwork();
        prepare(x);
        return x;
    }

    /** Lets TREES grow until one stands on each SITE that is not SHUT. */
    static void growAll(Seepwork x) {
        for (int i = 0; i < 20; i++) {
            x.grow(200);
        }
    }

    static void typeName(Seepwork x, String name) {
        for (char letter : name.toCharArray()) {
            x.type(letter);
        }
    }
}
