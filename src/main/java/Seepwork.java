import java.util.Arrays;

/**
 * What gets through by chance: one square of SITES and BONDS whose NUMBERS serve all thresholds,
 * and the clusters, spans, cuts, times, floods, fires, breaks and seepings that they bring about.
 */
public final class Seepwork {
    public static final int NONE = -1;
    public static final int BONDS = 0, SITES = 1, BOTH = 2;

    private static final int SIDE = 6;
    private static final int SITE_COUNT = 36;
    private static final int BOND_COUNT = 60;
    private static final int FIRST_UPRIGHT_BOND = 30;
    private static final int NUMBER_COUNT = 1000;
    private static final int DRAW_COUNT = 65536;
    private static final int THOUSAND = 1000;
    private static final int FIBRE_COUNT = 12;
    private static final int FIRST_STRENGTH = 100;
    private static final int MOST_STRENGTH = 1000;
    private static final int MOST_LOAD = 20000;
    private static final int MOST_TIME = 60000;
    private static final int MOST_LETTERS = 8;
    private static final int BLOCK_SIDE = 4;
    private static final int MOST_IN_BLOCK = 12;

    // The ways out of a SITE, by rising SITES; each is the name of a side of the square as well.
    private static final int UP = 0, LEFT = 1, RIGHT = 2, DOWN = 3;
    private static final int DIRECTION_COUNT = 4;

    private final Numbers numbers = new Numbers();
    // The NUMBERS that a seed would draw: estimate() must leave the told ones as they are.
    private final Numbers drawnNumbers = new Numbers();
    private final Land land = new Land();
    private final Openings openings = new Openings();
    private final Flow flow = new Flow();
    private final EdgeFinder edgeFinder = new EdgeFinder();
    private final Block block = new Block();
    private final Floods floods = new Floods();
    private final Invasion invasion = new Invasion();
    private final Bundle bundle = new Bundle();
    private final Fluids fluids = new Fluids();
    private final StringBuilder name = new StringBuilder();

    /** All NUMBERS 0, nothing SHUT or WET, no TREES, water everywhere. */
    public Seepwork() {
    }

    // ---- SITES, BONDS

    /**
     * Draws all NUMBERS.
     * @param z a seed, 0 to 65535
     * @throws IllegalArgumentException if it is out of range
     */
    public void seed(int z) throws IllegalArgumentException {
        needRange(z, 0, DRAW_COUNT - 1);
        numbers.drawAll(z);
    }

    /**
     * Tells a NUMBER.
     * @param bond a BOND
     * @param number 0 to 999
     * @return what it was
     * @throws IndexOutOfBoundsException if there is no such BOND
     * @throws IllegalArgumentException if number is out of range
     */
    public int bond(int bond, int number) throws IndexOutOfBoundsException, IllegalArgumentException {
        needBond(bond);
        needRange(number, 0, NUMBER_COUNT - 1);
        int before = numbers.ofBond[bond];
        numbers.ofBond[bond] = number;
        return before;
    }

    /**
     * Tells a NUMBER.
     * @param site a SITE
     * @param number 0 to 999
     * @return what it was
     * @throws IndexOutOfBoundsException if there is no such SITE
     * @throws IllegalArgumentException if number is out of range
     */
    public int site(int site, int number) throws IndexOutOfBoundsException, IllegalArgumentException {
        needSite(site);
        needRange(number, 0, NUMBER_COUNT - 1);
        int before = numbers.ofSite[site];
        numbers.ofSite[site] = number;
        return before;
    }

    /**
     * Returns the least number that is enough for a threshold above it to open a BOND, if nothing is SHUT.
     * @param kind BONDS to BOTH
     * @param bond a BOND
     * @return by BONDS its NUMBER, by SITES the greater one of those of its SITES, by BOTH the greatest of these three
     * @throws IndexOutOfBoundsException if there is no such BOND
     * @throws IllegalArgumentException if kind is out of range
     */
    public int numberOf(int kind, int bond) throws IndexOutOfBoundsException, IllegalArgumentException {
        needBond(bond);
        needKind(kind);
        return numbers.enoughFor(kind, bond);
    }

    /**
     * Makes a SITE SHUT, or not SHUT any more.
     * @param site a SITE
     * @param isShut which of both
     * @return whether it was SHUT
     * @throws IndexOutOfBoundsException if there is no such SITE
     */
    public boolean shut(int site, boolean isShut) throws IndexOutOfBoundsException {
        needSite(site);
        boolean before = land.shut[site];
        if (isShut) {
            close(site);
        } else {
            land.shut[site] = false;
        }
        return before;
    }

    /**
     * Attacks by rank: n times, as long as there is one, the SITE that is not SHUT with the most that are not SHUT
     * beside it, of several the lowest, becomes SHUT.
     * @param n 0 to 36
     * @return how many are SHUT then
     * @throws IllegalArgumentException if n is out of range
     */
    public int strike(int n) throws IllegalArgumentException {
        needRange(n, 0, SITE_COUNT);
        for (int i = 0; i < n; i++) {
            int site = land.firstInRank();
            if (site == NONE) {
                break;
            }
            close(site);
        }
        return countTrue(land.shut);
    }

    // ---- thresholds

    /**
     * Returns the lowest SITE of a CLUSTER.
     * @param kind BONDS to BOTH
     * @param p a threshold
     * @param site a SITE of it
     * @return the lowest one; NONE if the SITE is not OPEN
     * @throws IndexOutOfBoundsException if there is no such SITE
     * @throws IllegalArgumentException if kind or p is out of range
     */
    public int cluster(int kind, int p, int site) throws IndexOutOfBoundsException, IllegalArgumentException {
        needSite(site);
        openAt(kind, p);
        return openings.lowestOfCluster(site);
    }

    /**
     * Tells of all CLUSTERS.
     * @param kind BONDS to BOTH
     * @param p a threshold
     * @param what 0 how many there are, 1 how many SITES the greatest one has, 0 without one, 2 the sum of the squares
     *        of all their numbers of SITES
     * @return as told
     * @throws IllegalArgumentException if an argument is out of range
     */
    public int sizes(int kind, int p, int what) throws IllegalArgumentException {
        needRange(what, 0, 2);
        openAt(kind, p);
        openings.findClusters();
        if (what == 0) {
            return openings.clusterCount;
        }
        return what == 1 ? openings.greatestCluster : openings.sumOfSquares;
    }

    /**
     * Tells whether there is a span.
     * @param kind BONDS to BOTH
     * @param p a threshold
     * @param isDown whether down, or across
     * @return whether there is one
     * @throws IllegalArgumentException if kind or p is out of range
     */
    public boolean spans(int kind, int p, boolean isDown) throws IllegalArgumentException {
        openAt(kind, p);
        return openings.leastSteps(isDown ? UP : LEFT, isDown ? DOWN : RIGHT) != NONE;
    }

    /**
     * Returns the EDGE, found by opening BOND after BOND.
     * @param kind BONDS to BOTH
     * @param isDown whether down, or across
     * @return the threshold; NONE if there is no span at 1000 either
     * @throws IllegalArgumentException if kind is out of range
     */
    public int edge(int kind, boolean isDown) throws IllegalArgumentException {
        needKind(kind);
        return edgeFinder.byOpening(numbers, land.shut, kind, isDown);
    }

    /**
     * Returns the EDGE, found by the best way.
     * @param kind BONDS to BOTH
     * @param isDown whether down, or across
     * @return the threshold; NONE as told
     * @throws IllegalArgumentException if kind is out of range
     */
    public int edgeAnew(int kind, boolean isDown) throws IllegalArgumentException {
        needKind(kind);
        return edgeFinder.byBestWay(numbers, land.shut, kind, isDown);
    }

    /**
     * Returns how many ways from the left column to the right one there are at most, no two of which share a BOND;
     * they may share SITES.
     * @param kind BONDS to BOTH
     * @param p a threshold
     * @return how many
     * @throws IllegalArgumentException if an argument is out of range
     */
    public int ways(int kind, int p) throws IllegalArgumentException {
        openAt(kind, p);
        return flow.mostWays(openings);
    }

    /**
     * Returns how many OPEN BONDS have to be lost at least, so that there is no span across.
     * @param kind BONDS to BOTH
     * @param p a threshold
     * @return how many; 0 if there is none now
     * @throws IllegalArgumentException if an argument is out of range
     */
    public int cut(int kind, int p) throws IllegalArgumentException {
        openAt(kind, p);
        flow.mostWays(openings);
        return flow.countCut(openings);
    }

    /**
     * Counts the OPEN BONDS whose loss alone ends the span across.
     * @param kind BONDS to BOTH
     * @param p a threshold
     * @return how many; 0 if there is no span across
     * @throws IllegalArgumentException if an argument is out of range
     */
    public int red(int kind, int p) throws IllegalArgumentException {
        openAt(kind, p);
        return openings.countRedBonds();
    }

    /**
     * Returns the least number of BONDS of a way from the left column to the right one.
     * @param kind BONDS to BOTH
     * @param p a threshold
     * @return the number; NONE without a way
     * @throws IllegalArgumentException if an argument is out of range
     */
    public int shortest(int kind, int p) throws IllegalArgumentException {
        openAt(kind, p);
        return openings.leastSteps(LEFT, RIGHT);
    }

    // ---- BLOCKS

    /**
     * Counts the sets of k BONDS that span a BLOCK.
     * @param w 1 to 4 columns
     * @param h 1 to 4 rows
     * @param k 0 to all of its BONDS
     * @return how many
     * @throws IllegalArgumentException if w or h is out of range, the BLOCK has more than 12 BONDS, or k is out of
     *         range
     */
    public int polynomial(int w, int h, int k) throws IllegalArgumentException {
        layBlockOfFewBonds(w, h);
        needRange(k, 0, block.bondCount);
        return block.countSpanningSets(k);
    }

    /**
     * Returns the chance that a BLOCK is spanned, if each BOND is OPEN by itself with a chance in tenths.
     * @param w 1 to 4 columns
     * @param h 1 to 4 rows
     * @param a 0 to 10 tenths
     * @return the chance, times 10 to the power of how many BONDS there are
     * @throws IllegalArgumentException if w or h is out of range, the BLOCK has more than 12 BONDS, or a is out of
     *         range
     */
    public long chance(int w, int h, int a) throws IllegalArgumentException {
        layBlockOfFewBonds(w, h);
        needRange(a, 0, 10);
        long sum = 0;
        for (int k = 0; k <= block.bondCount; k++) {
            sum += block.countSpanningSets(k) * power(a, k) * power(10 - a, block.bondCount - k);
        }
        return sum;
    }

    /**
     * Counts the pairs of a set of k BONDS that does not span a BLOCK, and a BOND with which it does.
     * @param w 1 to 4 columns
     * @param h 1 to 4 rows
     * @param k 0 to all of its BONDS
     * @return how many
     * @throws IllegalArgumentException if w or h is out of range, the BLOCK has more than 12 BONDS, or k is out of
     *         range
     */
    public int pivots(int w, int h, int k) throws IllegalArgumentException {
        layBlockOfFewBonds(w, h);
        needRange(k, 0, block.bondCount);
        return block.countPivots(k);
    }

    // ---- times

    /**
     * Returns a time.
     * @param from a SITE
     * @param to a SITE
     * @return the time; NONE if there is none
     * @throws IndexOutOfBoundsException if there is no such SITE
     */
    public int time(int from, int to) throws IndexOutOfBoundsException {
        needSite(from);
        needSite(to);
        floods.rise(numbers, land.shut, from);
        return floods.cost[to];
    }

    /**
     * Counts the SITES to which it takes a time at most, the first one with them.
     * @param site a SITE
     * @param time 0 to 60000
     * @return how many; 0 if it is SHUT
     * @throws IndexOutOfBoundsException if there is no such SITE
     * @throws IllegalArgumentException if time is out of range
     */
    public int ball(int site, int time) throws IndexOutOfBoundsException, IllegalArgumentException {
        needSite(site);
        needRange(time, 0, MOST_TIME);
        floods.rise(numbers, land.shut, site);
        return floods.countWithin(time);
    }

    /**
     * Tells which of two floods comes first to a SITE, both beginning at once.
     * @param one the SITE where the first one begins
     * @param other that of the second one
     * @param site a SITE
     * @return 0 for the first one, 1 for the second one; the one that comes, if one alone does; NONE if both come at
     *         once, or none comes
     * @throws IndexOutOfBoundsException if there is no such SITE, of the three
     * @throws IllegalArgumentException if both begin at the same SITE
     */
    public int rival(int one, int other, int site) throws IndexOutOfBoundsException, IllegalArgumentException {
        needSite(one);
        needSite(other);
        needSite(site);
        if (one == other) {
            throw new IllegalArgumentException("both begin at the same SITE");
        }
        int timeOfOne = time(one, site);
        int timeOfOther = time(other, site);
        if (timeOfOne == timeOfOther) {
            return NONE;
        }
        if (timeOfOne == NONE) {
            return 1;
        }
        return timeOfOther == NONE || timeOfOne < timeOfOther ? 0 : 1;
    }

    /**
     * Returns the SITE that comes as the n-th by invasion.
     * @param site the SITE where it begins
     * @param n 0 to 35, 0 for that one
     * @return the SITE; NONE if not so many come
     * @throws IndexOutOfBoundsException if there is no such SITE
     * @throws IllegalArgumentException if n is out of range
     * @throws IllegalStateException if the SITE is SHUT
     */
    public int invade(int site, int n)
            throws IndexOutOfBoundsException, IllegalArgumentException, IllegalStateException {
        needInvasion(site, n);
        return invasion.goOn(numbers, land.shut, site, n) ? invasion.lastSite : NONE;
    }

    /**
     * Returns the greatest NUMBER of the BONDS over which the first n SITES come by invasion, the one where it begins
     * not counted.
     * @param site the SITE where it begins
     * @param n 0 to 35
     * @return the NUMBER; NONE for 0, or if not so many come
     * @throws IndexOutOfBoundsException if there is no such SITE
     * @throws IllegalArgumentException if n is out of range
     * @throws IllegalStateException if the SITE is SHUT
     */
    public int invaded(int site, int n)
            throws IndexOutOfBoundsException, IllegalArgumentException, IllegalStateException {
        needInvasion(site, n);
        return invasion.goOn(numbers, land.shut, site, n) ? invasion.greatestNumber : NONE;
    }

    // ---- wet ones, woods

    /**
     * Makes a SITE WET, or not WET any more.
     * @param site a SITE
     * @param isWet which of both
     * @return whether it was WET
     * @throws IndexOutOfBoundsException if there is no such SITE
     * @throws IllegalStateException if it is SHUT, whichever is told
     */
    public boolean wet(int site, boolean isWet) throws IndexOutOfBoundsException, IllegalStateException {
        needSite(site);
        needNotShut(site);
        boolean before = land.wet[site];
        land.wet[site] = isWet;
        return before;
    }

    /**
     * Tells how the WET ones would fill.
     * @param k a need, 1 to 4
     * @param what 0 how many are WET in the end, 1 in how many rounds some become so
     * @return as told
     * @throws IllegalArgumentException if k or what is out of range
     */
    public int filled(int k, int what) throws IllegalArgumentException {
        needRange(k, 1, DIRECTION_COUNT);
        needRange(what, 0, 1);
        land.fill(k);
        return what == 0 ? land.filledCount : land.roundCount;
    }

    /**
     * Returns how many places of a BLOCK have to be WET at least, so that all of it fills, with nothing else beside it.
     * @param w 1 to 4 columns
     * @param h 1 to 4 rows
     * @param k a need, 1 to 4
     * @return how many
     * @throws IllegalArgumentException if w, h or k is out of range, or the BLOCK has more than 12 places
     */
    public int leastWet(int w, int h, int k) throws IllegalArgumentException {
        needRange(w, 1, BLOCK_SIDE);
        needRange(h, 1, BLOCK_SIDE);
        needRange(k, 1, DIRECTION_COUNT);
        needRange(w * h, 1, MOST_IN_BLOCK);
        block.lay(w, h);
        return block.leastToFill(k);
    }

    /**
     * Lets TREES grow by draws.
     * @param n 1 to 200 draws
     * @return how many TREES stand then
     * @throws IllegalArgumentException if n is out of range
     */
    public int grow(int n) throws IllegalArgumentException {
        needRange(n, 1, 200);
        land.plant(n);
        return countTrue(land.trees);
    }

    /**
     * Lets lightning strike.
     * @param site a SITE
     * @return how many TREES burn, 0 if none stands there
     * @throws IndexOutOfBoundsException if there is no such SITE
     */
    public int lightning(int site) throws IndexOutOfBoundsException {
        needSite(site);
        return land.burn(site);
    }

    // ---- FIBRES

    /**
     * Tells a STRENGTH.
     * @param fibre a FIBRE
     * @param strength 1 to 1000
     * @return what it was
     * @throws IndexOutOfBoundsException if there is no such FIBRE
     * @throws IllegalArgumentException if strength is out of range
     */
    public int fibre(int fibre, int strength) throws IndexOutOfBoundsException, IllegalArgumentException {
        needFibre(fibre);
        needRange(strength, 1, MOST_STRENGTH);
        int before = bundle.strengths[fibre];
        bundle.strengths[fibre] = strength;
        return before;
    }

    /**
     * Tries a load.
     * @param load 0 to 20000
     * @param isLocal whether by neighbours, or evenly
     * @return how many FIBRES would break
     * @throws IllegalArgumentException if load is out of range
     */
    public int load(int load, boolean isLocal) throws IllegalArgumentException {
        needRange(load, 0, MOST_LOAD);
        return isLocal ? bundle.breakByNeighbours(load) : bundle.breakEvenly(load);
    }

    /**
     * Returns the least load of all by which all FIBRES would break, less 1, whatever greater loads would do.
     * @param isLocal whether by neighbours, or evenly
     * @return that load
     */
    public int lastStraw(boolean isLocal) {
        return (isLocal ? bundle.leastFatalByNeighbours() : bundle.leastFatalEvenly()) - 1;
    }

    // ---- oil and water

    /**
     * Drains.
     * @param pressure 0 to 1000
     * @return how many SITES have oil then
     * @throws IllegalArgumentException if pressure is out of range
     */
    public int drain(int pressure) throws IllegalArgumentException {
        needRange(pressure, 0, THOUSAND);
        fluids.push(numbers, land.shut, pressure, true);
        return countTrue(fluids.oil);
    }

    /**
     * Soaks.
     * @param pressure 0 to 1000
     * @return how many SITES have oil then
     * @throws IllegalArgumentException if pressure is out of range
     */
    public int soak(int pressure) throws IllegalArgumentException {
        needRange(pressure, 0, THOUSAND);
        fluids.push(numbers, land.shut, pressure, false);
        return countTrue(fluids.oil);
    }

    /**
     * Counts the SITES, not SHUT, at which oil, or water, is trapped.
     * @param isOil which of both
     * @return how many
     */
    public int trapped(boolean isOil) {
        return fluids.countTrapped(land.shut, isOil);
    }

    // ---- scale, measures

    /**
     * Makes steps of scale.
     * @param p 0 to 1000
     * @param n 0 to 50 steps
     * @return the chance then
     * @throws IllegalArgumentException if an argument is out of range
     */
    public int scale(int p, int n) throws IllegalArgumentException {
        needRange(p, 0, THOUSAND);
        needRange(n, 0, 50);
        int chance = p;
        for (int i = 0; i < n; i++) {
            chance = scaledOnce(chance);
        }
        return chance;
    }

    /**
     * Counts by how many of the seeds 1 to n there would be a span across, SHUT ones as they are.
     * @param kind BONDS to BOTH
     * @param p a threshold
     * @param n 1 to 30
     * @return how many
     * @throws IllegalArgumentException if an argument is out of range
     */
    public int estimate(int kind, int p, int n) throws IllegalArgumentException {
        needKind(kind);
        needRange(p, 0, THOUSAND);
        needRange(n, 1, 30);
        int spanned = 0;
        for (int seed = 1; seed <= n; seed++) {
            drawnNumbers.drawAll(seed);
            openings.open(drawnNumbers, land.shut, kind, p);
            if (openings.leastSteps(LEFT, RIGHT) != NONE) {
                spanned++;
            }
        }
        return spanned;
    }

    /**
     * Puts a letter behind the NAME.
     * @param letter 97 (a) to 122 (z)
     * @return how many letters it has then
     * @throws IllegalArgumentException if letter is out of range
     * @throws IllegalStateException if it has 8
     */
    public int type(int letter) throws IllegalArgumentException, IllegalStateException {
        needRange(letter, 'a', 'z');
        if (name.length() >= MOST_LETTERS) {
            throw new IllegalStateException("the NAME has 8 letters");
        }
        name.append((char) letter);
        return name.length();
    }

    /**
     * Makes the NAME empty.
     * @return how many letters it had
     */
    public int wipe() {
        int before = name.length();
        name.setLength(0);
        return before;
    }

    /**
     * Takes the measure that has the NAME.
     * @param kind BONDS to BOTH
     * @param p a threshold
     * @return as told for it
     * @throws IllegalArgumentException if an argument is out of range
     * @throws IllegalStateException if no measure has the NAME
     */
    public int measure(int kind, int p) throws IllegalArgumentException, IllegalStateException {
        needKind(kind);
        needRange(p, 0, THOUSAND);
        String measure = name.toString();
        if (measure.equals("many")) {
            return sizes(kind, p, 0);
        }
        if (measure.equals("size")) {
            return sizes(kind, p, 1);
        }
        if (measure.equals("span")) {
            return spans(kind, p, false) ? 1 : 0;
        }
        if (measure.equals("cut")) {
            return cut(kind, p);
        }
        if (measure.equals("red")) {
            return red(kind, p);
        }
        if (measure.equals("way")) {
            return shortest(kind, p);
        }
        throw new IllegalStateException("no measure has the NAME");
    }

    /**
     * Counts.
     * @param what 0 SHUT SITES, 1 TREES, 2 WET SITES, 3 SITES with oil, 4 letters of the NAME
     * @return how many
     * @throws IllegalArgumentException if what is out of range
     */
    public int count(int what) throws IllegalArgumentException {
        switch (what) {
            case 0:
                return countTrue(land.shut);
            case 1:
                return countTrue(land.trees);
            case 2:
                return countTrue(land.wet);
            case 3:
                return countTrue(fluids.oil);
            case 4:
                return name.length();
            default:
                throw new IllegalArgumentException("there is no such count");
        }
    }

    // ---- arguments

    private static void needSite(int site) {
        if (site < 0 || site >= SITE_COUNT) {
            throw new IndexOutOfBoundsException("there is no such SITE");
        }
    }

    private static void needBond(int bond) {
        if (bond < 0 || bond >= BOND_COUNT) {
            throw new IndexOutOfBoundsException("there is no such BOND");
        }
    }

    private static void needFibre(int fibre) {
        if (fibre < 0 || fibre >= FIBRE_COUNT) {
            throw new IndexOutOfBoundsException("there is no such FIBRE");
        }
    }

    private static void needKind(int kind) {
        if (kind < BONDS || kind > BOTH) {
            throw new IllegalArgumentException("there is no such KIND");
        }
    }

    private static void needRange(int value, int least, int most) {
        if (value < least || value > most) {
            throw new IllegalArgumentException("an argument is out of range");
        }
    }

    private void needNotShut(int site) {
        if (land.shut[site]) {
            throw new IllegalStateException("the SITE is SHUT");
        }
    }

    private void needInvasion(int site, int n) {
        needSite(site);
        needRange(n, 0, SITE_COUNT - 1);
        needNotShut(site);
    }

    private void openAt(int kind, int p) {
        needKind(kind);
        needRange(p, 0, THOUSAND);
        openings.open(numbers, land.shut, kind, p);
    }

    private void layBlockOfFewBonds(int w, int h) {
        needRange(w, 1, BLOCK_SIDE);
        needRange(h, 1, BLOCK_SIDE);
        needRange((w - 1) * h + w * (h - 1), 0, MOST_IN_BLOCK);
        block.lay(w, h);
    }

    // ---- what several parts need

    private void close(int site) {
        land.close(site);
        fluids.oil[site] = false;
    }

    private static int countTrue(boolean[] row) {
        int count = 0;
        for (boolean isTrue : row) {
            if (isTrue) {
                count++;
            }
        }
        return count;
    }

    private static void clear(boolean[] row) {
        for (int i = 0; i < row.length; i++) {
            row[i] = false;
        }
    }

    private static int nextDraw(int draw) {
        return (25173 * draw + 13849) % DRAW_COUNT;
    }

    private static long power(int base, int exponent) {
        long product = 1;
        for (int i = 0; i < exponent; i++) {
            product *= base;
        }
        return product;
    }

    private static int scaledOnce(int chance) {
        long p = chance;
        long q = THOUSAND - p;
        return (int) ((p * p * p * p + 4 * p * p * p * q + 2 * p * p * q * q) / 1000000000L);
    }

    // ---- where SITES and BONDS are

    private static int lowEnd(int bond) {
        if (bond >= FIRST_UPRIGHT_BOND) {
            return bond - FIRST_UPRIGHT_BOND;
        }
        return SIDE * (bond / (SIDE - 1)) + bond % (SIDE - 1);
    }

    private static int highEnd(int bond) {
        return lowEnd(bond) + (bond >= FIRST_UPRIGHT_BOND ? SIDE : 1);
    }

    /** The BOND that joins two SITES, which must be beside one another. */
    private static int bondBetween(int one, int other) {
        int low = one < other ? one : other;
        boolean isUpright = one + other == 2 * low + SIDE;
        return isUpright ? FIRST_UPRIGHT_BOND + low : (SIDE - 1) * (low / SIDE) + low % SIDE;
    }

    private static int siteBeside(int site, int direction) {
        switch (direction) {
            case UP:
                return site / SIDE > 0 ? site - SIDE : NONE;
            case LEFT:
                return site % SIDE > 0 ? site - 1 : NONE;
            case RIGHT:
                return site % SIDE < SIDE - 1 ? site + 1 : NONE;
            default:
                return site / SIDE < SIDE - 1 ? site + SIDE : NONE;
        }
    }

    private static boolean isOnSide(int site, int side) {
        return siteBeside(site, side) == NONE;
    }

    /** The NUMBERS of all BONDS and SITES. */
    private static final class Numbers {
        private final int[] ofBond = new int[BOND_COUNT];
        private final int[] ofSite = new int[SITE_COUNT];

        void drawAll(int seed) {
            int z = seed;
            for (int bond = 0; bond < BOND_COUNT; bond++) {
                z = nextDraw(z);
                ofBond[bond] = z % NUMBER_COUNT;
            }
            for (int site = 0; site < SITE_COUNT; site++) {
                z = nextDraw(z);
                ofSite[site] = z % NUMBER_COUNT;
            }
        }

        int enoughFor(int kind, int bond) {
            if (kind == BONDS) {
                return ofBond[bond];
            }
            int ofItsSites = Math.max(ofSite[lowEnd(bond)], ofSite[highEnd(bond)]);
            return kind == SITES ? ofItsSites : Math.max(ofBond[bond], ofItsSites);
        }
    }

    /** SITES that wait, the first one that came ahead; each comes once at most until all are forgotten. */
    private static final class SiteQueue {
        private final int[] sites = new int[SITE_COUNT];
        private int head;
        private int size;

        void forget() {
            head = 0;
            size = 0;
        }

        void add(int site) {
            if (size < SITE_COUNT) {
                sites[size] = site;
                size++;
            }
        }

        int next() {
            if (head >= size) {
                return NONE;
            }
            int site = sites[head];
            head++;
            return site;
        }
    }

    /** What is OPEN at one threshold, and what can be reached over it. */
    private static final class Openings {
        private final boolean[] openSites = new boolean[SITE_COUNT];
        private final boolean[] openBonds = new boolean[BOND_COUNT];
        // How many BONDS away from the start of the walk a SITE is; NONE if it was not reached.
        private final int[] steps = new int[SITE_COUNT];
        private final SiteQueue queue = new SiteQueue();
        private int clusterCount;
        private int greatestCluster;
        private int sumOfSquares;

        void open(Numbers numbers, boolean[] shut, int kind, int p) {
            for (int site = 0; site < SITE_COUNT; site++) {
                openSites[site] = !shut[site] && (kind == BONDS || numbers.ofSite[site] < p);
            }
            for (int bond = 0; bond < BOND_COUNT; bond++) {
                boolean areEndsOpen = openSites[lowEnd(bond)] && openSites[highEnd(bond)];
                openBonds[bond] = areEndsOpen && (kind == SITES || numbers.ofBond[bond] < p);
            }
        }

        int leastSteps(int fromSide, int toSide) {
            startAtSide(fromSide);
            walkOn();
            int least = NONE;
            for (int site = 0; site < SITE_COUNT; site++) {
                boolean isEnd = isOnSide(site, toSide) && steps[site] != NONE;
                if (isEnd && (least == NONE || steps[site] < least)) {
                    least = steps[site];
                }
            }
            return least;
        }

        int lowestOfCluster(int site) {
            if (!openSites[site]) {
                return NONE;
            }
            Arrays.fill(steps, NONE);
            walkFrom(site);
            int lowest = 0;
            while (lowest < site && steps[lowest] == NONE) {
                lowest++;
            }
            return lowest;
        }

        void findClusters() {
            clusterCount = 0;
            greatestCluster = 0;
            sumOfSquares = 0;
            Arrays.fill(steps, NONE);
            for (int site = 0; site < SITE_COUNT; site++) {
                if (openSites[site] && steps[site] == NONE) {
                    int size = walkFrom(site);
                    clusterCount++;
                    greatestCluster = Math.max(greatestCluster, size);
                    sumOfSquares += size * size;
                }
            }
        }

        int countRedBonds() {
            if (leastSteps(LEFT, RIGHT) == NONE) {
                return 0;
            }
            int red = 0;
            for (int bond = 0; bond < BOND_COUNT; bond++) {
                if (openBonds[bond]) {
                    openBonds[bond] = false;
                    if (leastSteps(LEFT, RIGHT) == NONE) {
                        red++;
                    }
                    openBonds[bond] = true;
                }
            }
            return red;
        }

        private void startAtSide(int side) {
            Arrays.fill(steps, NONE);
            queue.forget();
            for (int site = 0; site < SITE_COUNT; site++) {
                if (openSites[site] && isOnSide(site, side)) {
                    steps[site] = 0;
                    queue.add(site);
                }
            }
        }

        /** Walks over all that is joined to a SITE, and returns how many SITES that are. */
        private int walkFrom(int site) {
            queue.forget();
            steps[site] = 0;
            queue.add(site);
            walkOn();
            return queue.size;
        }

        private void walkOn() {
            for (int i = 0; i < SITE_COUNT; i++) {
                int site = queue.next();
                if (site == NONE) {
                    break;
                }
                for (int direction = 0; direction < DIRECTION_COUNT; direction++) {
                    int next = siteBeside(site, direction);
                    if (next != NONE && steps[next] == NONE && openBonds[bondBetween(site, next)]) {
                        steps[next] = steps[site] + 1;
                        queue.add(next);
                    }
                }
            }
        }
    }

    /** The most ways across that share no BOND, and the cut that proves that there are no more. */
    private static final class Flow {
        // 1 if a way goes over a BOND from its low end to its high end, -1 if back, 0 if none does.
        private final int[] flow = new int[BOND_COUNT];
        private final boolean[] reached = new boolean[SITE_COUNT];
        private final int[] cameOver = new int[SITE_COUNT];
        private final SiteQueue queue = new SiteQueue();

        int mostWays(Openings openings) {
            Arrays.fill(flow, 0);
            int ways = 0;
            while (ways < BOND_COUNT) {
                int end = searchWay(openings);
                if (end == NONE) {
                    break;
                }
                addWayTo(end);
                ways++;
            }
            return ways;
        }

        /** The last search for a way, which found none, has left the SITES ahead of the cut reached. */
        int countCut(Openings openings) {
            int lost = 0;
            for (int bond = 0; bond < BOND_COUNT; bond++) {
                if (openings.openBonds[bond] && reached[lowEnd(bond)] != reached[highEnd(bond)]) {
                    lost++;
                }
            }
            return lost;
        }

        private int searchWay(Openings openings) {
            startAtLeft(openings);
            for (int i = 0; i < SITE_COUNT; i++) {
                int site = queue.next();
                if (site == NONE || isOnSide(site, RIGHT)) {
                    return site;
                }
                for (int direction = 0; direction < DIRECTION_COUNT; direction++) {
                    int next = siteBeside(site, direction);
                    if (next != NONE && !reached[next] && isFree(openings, site, next)) {
                        reached[next] = true;
                        cameOver[next] = bondBetween(site, next);
                        queue.add(next);
                    }
                }
            }
            return NONE;
        }

        private void startAtLeft(Openings openings) {
            queue.forget();
            for (int site = 0; site < SITE_COUNT; site++) {
                reached[site] = openings.openSites[site] && isOnSide(site, LEFT);
                cameOver[site] = NONE;
                if (reached[site]) {
                    queue.add(site);
                }
            }
        }

        /** A BOND that a way uses in the other direction is free too: each of both goes on as the other one did. */
        private boolean isFree(Openings openings, int from, int to) {
            int bond = bondBetween(from, to);
            boolean isUsed = from < to ? flow[bond] > 0 : flow[bond] < 0;
            return openings.openBonds[bond] && !isUsed;
        }

        private void addWayTo(int end) {
            int site = end;
            for (int i = 0; i < SITE_COUNT && cameOver[site] != NONE; i++) {
                int bond = cameOver[site];
                if (highEnd(bond) == site) {
                    flow[bond]++;
                    site = lowEnd(bond);
                } else {
                    flow[bond]--;
                    site = highEnd(bond);
                }
            }
        }
    }

    /** What it costs at least to come to each SITE: the nearest is settled first, and offers what lies beside it. */
    private static final class Floods {
        private final int[] cost = new int[SITE_COUNT];
        private final boolean[] settled = new boolean[SITE_COUNT];

        void forget() {
            Arrays.fill(cost, NONE);
            clear(settled);
        }

        void offer(int site, int offered) {
            if (cost[site] == NONE || offered < cost[site]) {
                cost[site] = offered;
            }
        }

        int settleNearest() {
            int nearest = NONE;
            for (int site = 0; site < SITE_COUNT; site++) {
                boolean isWaiting = !settled[site] && cost[site] != NONE;
                if (isWaiting && (nearest == NONE || cost[site] < cost[nearest])) {
                    nearest = site;
                }
            }
            if (nearest != NONE) {
                settled[nearest] = true;
            }
            return nearest;
        }

        /** Makes the costs the times from a SITE. */
        void rise(Numbers numbers, boolean[] shut, int start) {
            forget();
            if (!shut[start]) {
                offer(start, 0);
            }
            for (int i = 0; i < SITE_COUNT; i++) {
                int site = settleNearest();
                if (site == NONE) {
                    break;
                }
                for (int direction = 0; direction < DIRECTION_COUNT; direction++) {
                    int next = siteBeside(site, direction);
                    if (next != NONE && !shut[next]) {
                        offer(next, cost[site] + numbers.ofBond[bondBetween(site, next)] + 1);
                    }
                }
            }
        }

        int countWithin(int time) {
            int count = 0;
            for (int site = 0; site < SITE_COUNT; site++) {
                if (cost[site] != NONE && cost[site] <= time) {
                    count++;
                }
            }
            return count;
        }
    }

    /** The EDGE, found in two manners that know nothing of one another. */
    private static final class EdgeFinder {
        // Both ends of a span stand behind the SITES as two more, to which the SITES of their sides belong at once.
        private static final int START = SITE_COUNT;
        private static final int END = SITE_COUNT + 1;
        private final int[] parent = new int[SITE_COUNT + 2];
        private final boolean[] opened = new boolean[BOND_COUNT];
        private final Floods floods = new Floods();

        int byOpening(Numbers numbers, boolean[] shut, int kind, boolean isDown) {
            partAll(isDown);
            clear(opened);
            for (int i = 0; i < BOND_COUNT; i++) {
                int bond = nextToOpen(numbers, shut, kind);
                if (bond == NONE) {
                    break;
                }
                opened[bond] = true;
                parent[rootOf(lowEnd(bond))] = rootOf(highEnd(bond));
                if (rootOf(START) == rootOf(END)) {
                    return numbers.enoughFor(kind, bond) + 1;
                }
            }
            return NONE;
        }

        private void partAll(boolean isDown) {
            for (int site = 0; site < SITE_COUNT; site++) {
                if (isOnSide(site, isDown ? UP : LEFT)) {
                    parent[site] = START;
                } else {
                    parent[site] = isOnSide(site, isDown ? DOWN : RIGHT) ? END : site;
                }
            }
            parent[START] = START;
            parent[END] = END;
        }

        private int nextToOpen(Numbers numbers, boolean[] shut, int kind) {
            int next = NONE;
            int least = NUMBER_COUNT;
            for (int bond = 0; bond < BOND_COUNT; bond++) {
                boolean canOpen = !opened[bond] && !shut[lowEnd(bond)] && !shut[highEnd(bond)];
                int number = numbers.enoughFor(kind, bond);
                if (canOpen && number < least) {
                    least = number;
                    next = bond;
                }
            }
            return next;
        }

        private int rootOf(int node) {
            int root = node;
            for (int i = 0; i < parent.length && parent[root] != root; i++) {
                root = parent[root];
            }
            return root;
        }

        int byBestWay(Numbers numbers, boolean[] shut, int kind, boolean isDown) {
            startAtSide(shut, isDown ? UP : LEFT);
            for (int i = 0; i < SITE_COUNT; i++) {
                int site = floods.settleNearest();
                if (site == NONE) {
                    break;
                }
                // A SITE costs the greatest NUMBER of its best way, so the first one at the other side has the best.
                if (isOnSide(site, isDown ? DOWN : RIGHT)) {
                    return floods.cost[site] + 1;
                }
                offerBeside(numbers, shut, kind, site);
            }
            return NONE;
        }

        private void startAtSide(boolean[] shut, int side) {
            floods.forget();
            for (int site = 0; site < SITE_COUNT; site++) {
                if (!shut[site] && isOnSide(site, side)) {
                    floods.offer(site, 0);
                }
            }
        }

        private void offerBeside(Numbers numbers, boolean[] shut, int kind, int site) {
            for (int direction = 0; direction < DIRECTION_COUNT; direction++) {
                int next = siteBeside(site, direction);
                if (next != NONE && !shut[next]) {
                    int number = numbers.enoughFor(kind, bondBetween(site, next));
                    floods.offer(next, Math.max(floods.cost[site], number));
                }
            }
        }
    }

    /** A BLOCK all of whose sets of BONDS, or of places, are tried, each as the bits of a whole number. */
    private static final class Block {
        private final int[] endsOfBond = new int[2 * BLOCK_SIDE * (BLOCK_SIDE - 1)];
        private final int[] besidePlace = new int[BLOCK_SIDE * BLOCK_SIDE];
        private int placeCount;
        private int bondCount;
        private int leftColumn;
        private int rightColumn;

        /** Lays out w columns and h rows, 1 to 4 each. */
        void lay(int w, int h) {
            placeCount = w * h;
            bondCount = 0;
            leftColumn = 0;
            rightColumn = 0;
            Arrays.fill(besidePlace, 0);
            for (int row = 0; row < h; row++) {
                int first = row * w;
                leftColumn |= 1 << first;
                rightColumn |= 1 << (first + w - 1);
                for (int place = first; place < first + w; place++) {
                    if (place + 1 < first + w) {
                        join(place, place + 1);
                    }
                    if (row + 1 < h) {
                        join(place, place + w);
                    }
                }
            }
        }

        private void join(int one, int other) {
            endsOfBond[bondCount] = (1 << one) | (1 << other);
            bondCount++;
            besidePlace[one] |= 1 << other;
            besidePlace[other] |= 1 << one;
        }

        int countSpanningSets(int size) {
            int count = 0;
            for (int set = 0; set < (1 << bondCount); set++) {
                if (Integer.bitCount(set) == size && isSpannedBy(set)) {
                    count++;
                }
            }
            return count;
        }

        int countPivots(int size) {
            int count = 0;
            for (int set = 0; set < (1 << bondCount); set++) {
                if (Integer.bitCount(set) == size && !isSpannedBy(set)) {
                    count += countBondsThatSpanWith(set);
                }
            }
            return count;
        }

        private int countBondsThatSpanWith(int set) {
            int count = 0;
            for (int bond = 0; bond < bondCount; bond++) {
                boolean isMore = ((set >> bond) & 1) == 0;
                if (isMore && isSpannedBy(set | (1 << bond))) {
                    count++;
                }
            }
            return count;
        }

        private boolean isSpannedBy(int set) {
            int reached = leftColumn;
            for (int round = 0; round < placeCount; round++) {
                int before = reached;
                for (int bond = 0; bond < bondCount; bond++) {
                    if (((set >> bond) & 1) == 1 && (endsOfBond[bond] & reached) != 0) {
                        reached |= endsOfBond[bond];
                    }
                }
                if (reached == before) {
                    break;
                }
            }
            return (reached & rightColumn) != 0;
        }

        int leastToFill(int need) {
            int least = placeCount;
            for (int set = 0; set < (1 << placeCount); set++) {
                int size = Integer.bitCount(set);
                if (size < least && isFilledBy(set, need)) {
                    least = size;
                }
            }
            return least;
        }

        /** In which round a place becomes WET is not asked here, so each may count for the next one at once. */
        private boolean isFilledBy(int set, int need) {
            int wet = set;
            for (int round = 0; round < placeCount; round++) {
                int before = wet;
                for (int place = 0; place < placeCount; place++) {
                    if (Integer.bitCount(besidePlace[place] & wet) >= need) {
                        wet |= 1 << place;
                    }
                }
                if (wet == before) {
                    break;
                }
            }
            return Integer.bitCount(wet) == placeCount;
        }
    }

    /** Invasion by the BOND with the least NUMBER next. */
    private static final class Invasion {
        private final boolean[] there = new boolean[SITE_COUNT];
        private int lastSite;
        private int greatestNumber;

        /** Returns whether n SITES come; start must not be SHUT. */
        boolean goOn(Numbers numbers, boolean[] shut, int start, int n) {
            clear(there);
            there[start] = true;
            lastSite = start;
            greatestNumber = NONE;
            for (int i = 0; i < n; i++) {
                int bond = nextBond(numbers, shut);
                if (bond == NONE) {
                    return false;
                }
                lastSite = there[lowEnd(bond)] ? highEnd(bond) : lowEnd(bond);
                there[lastSite] = true;
                greatestNumber = Math.max(greatestNumber, numbers.ofBond[bond]);
            }
            return true;
        }

        private int nextBond(Numbers numbers, boolean[] shut) {
            int next = NONE;
            for (int bond = 0; bond < BOND_COUNT; bond++) {
                int low = lowEnd(bond);
                int high = highEnd(bond);
                boolean leadsOn = there[low] != there[high] && !shut[low] && !shut[high];
                if (leadsOn && (next == NONE || numbers.ofBond[bond] < numbers.ofBond[next])) {
                    next = bond;
                }
            }
            return next;
        }
    }

    /** What is SHUT and what is WET, and the TREES. */
    private static final class Land {
        private final boolean[] shut = new boolean[SITE_COUNT];
        private final boolean[] wet = new boolean[SITE_COUNT];
        private final boolean[] trees = new boolean[SITE_COUNT];
        private int draw;
        private final boolean[] filled = new boolean[SITE_COUNT];
        private final boolean[] joining = new boolean[SITE_COUNT];
        private int filledCount;
        private int roundCount;
        private final SiteQueue burning = new SiteQueue();

        void close(int site) {
            shut[site] = true;
            wet[site] = false;
            trees[site] = false;
        }

        /** The SITE that an attack takes next; NONE if all are SHUT. */
        int firstInRank() {
            int first = NONE;
            int most = NONE;
            for (int site = 0; site < SITE_COUNT; site++) {
                int rank = shut[site] ? NONE : countNotShutBeside(site);
                if (rank > most) {
                    most = rank;
                    first = site;
                }
            }
            return first;
        }

        private int countNotShutBeside(int site) {
            int count = 0;
            for (int direction = 0; direction < DIRECTION_COUNT; direction++) {
                int next = siteBeside(site, direction);
                if (next != NONE && !shut[next]) {
                    count++;
                }
            }
            return count;
        }

        void fill(int need) {
            for (int site = 0; site < SITE_COUNT; site++) {
                filled[site] = wet[site];
            }
            filledCount = countTrue(wet);
            roundCount = 0;
            for (int round = 0; round < SITE_COUNT; round++) {
                int more = fillOnce(need);
                if (more == 0) {
                    break;
                }
                filledCount += more;
                roundCount++;
            }
        }

        private int fillOnce(int need) {
            // All join together: none may count for another in the round in which it joins itself.
            for (int site = 0; site < SITE_COUNT; site++) {
                joining[site] = !filled[site] && !shut[site] && countFilledBeside(site) >= need;
            }
            for (int site = 0; site < SITE_COUNT; site++) {
                filled[site] = filled[site] || joining[site];
            }
            return countTrue(joining);
        }

        private int countFilledBeside(int site) {
            int count = 0;
            for (int direction = 0; direction < DIRECTION_COUNT; direction++) {
                int next = siteBeside(site, direction);
                if (next != NONE && filled[next]) {
                    count++;
                }
            }
            return count;
        }

        void plant(int n) {
            for (int i = 0; i < n; i++) {
                draw = nextDraw(draw);
                int site = draw % SITE_COUNT;
                if (!shut[site]) {
                    trees[site] = true;
                }
            }
        }

        /** Returns how many TREES burn. */
        int burn(int start) {
            burning.forget();
            kindle(start);
            for (int i = 0; i < SITE_COUNT; i++) {
                int site = burning.next();
                if (site == NONE) {
                    break;
                }
                for (int direction = 0; direction < DIRECTION_COUNT; direction++) {
                    kindle(siteBeside(site, direction));
                }
            }
            return burning.size;
        }

        private void kindle(int site) {
            if (site != NONE && trees[site]) {
                trees[site] = false;
                burning.add(site);
            }
        }
    }

    /** The ring of FIBRES, and the loads that are tried on it. */
    private static final class Bundle {
        private final int[] strengths = new int[FIBRE_COUNT];
        private final boolean[] whole = new boolean[FIBRE_COUNT];
        private final boolean[] breaking = new boolean[FIBRE_COUNT];
        private final int[] borne = new int[FIBRE_COUNT];
        private int wholeCount;

        Bundle() {
            Arrays.fill(strengths, FIRST_STRENGTH);
        }

        int breakEvenly(int load) {
            mend();
            for (int round = 0; round < FIBRE_COUNT && wholeCount > 0; round++) {
                Arrays.fill(borne, load / wholeCount);
                if (breakOnce() == 0) {
                    break;
                }
            }
            return FIBRE_COUNT - wholeCount;
        }

        int breakByNeighbours(int load) {
            mend();
            Arrays.fill(borne, load / FIBRE_COUNT);
            for (int round = 0; round < FIBRE_COUNT && wholeCount > 0; round++) {
                if (breakOnce() == 0) {
                    break;
                }
                passOn();
            }
            return FIBRE_COUNT - wholeCount;
        }

        /** The weakest whole one has to break each time, and bears its part of as many as are whole with it. */
        int leastFatalEvenly() {
            mend();
            int least = 0;
            for (int count = FIBRE_COUNT; count > 0; count--) {
                int weakest = weakestWhole();
                if (weakest == NONE) {
                    break;
                }
                least = Math.max(least, count * (strengths[weakest] + 1));
                whole[weakest] = false;
            }
            return least;
        }

        /** A greater load may break fewer, so all are tried by which each FIBRE bears more than by the load ahead. */
        int leastFatalByNeighbours() {
            int load = 0;
            for (int each = 0; each <= MOST_STRENGTH; each++) {
                if (breakByNeighbours(load) == FIBRE_COUNT) {
                    break;
                }
                load += FIBRE_COUNT;
            }
            return load;
        }

        private void mend() {
            for (int fibre = 0; fibre < FIBRE_COUNT; fibre++) {
                whole[fibre] = true;
            }
            wholeCount = FIBRE_COUNT;
        }

        private int breakOnce() {
            for (int fibre = 0; fibre < FIBRE_COUNT; fibre++) {
                breaking[fibre] = whole[fibre] && borne[fibre] > strengths[fibre];
                whole[fibre] = whole[fibre] && !breaking[fibre];
            }
            int broken = countTrue(breaking);
            wholeCount -= broken;
            return broken;
        }

        private void passOn() {
            for (int fibre = 0; fibre < FIBRE_COUNT; fibre++) {
                int lower = nextWhole(fibre, FIBRE_COUNT - 1);
                int higher = nextWhole(fibre, 1);
                if (breaking[fibre] && lower != NONE && higher != NONE) {
                    int half = borne[fibre] / 2;
                    borne[lower] += half;
                    borne[higher] += borne[fibre] - half;
                }
            }
        }

        private int nextWhole(int fibre, int step) {
            int next = fibre;
            for (int i = 1; i < FIBRE_COUNT; i++) {
                next = (next + step) % FIBRE_COUNT;
                if (whole[next]) {
                    return next;
                }
            }
            return NONE;
        }

        private int weakestWhole() {
            int weakest = NONE;
            for (int fibre = 0; fibre < FIBRE_COUNT; fibre++) {
                if (whole[fibre] && (weakest == NONE || strengths[fibre] < strengths[weakest])) {
                    weakest = fibre;
                }
            }
            return weakest;
        }
    }

    /** Oil that comes from the left, and water that comes from the right. */
    private static final class Fluids {
        // A SITE without oil has water.
        private final boolean[] oil = new boolean[SITE_COUNT];
        // Whether what a SITE has hangs: oil on the left, water on the right. What is SHUT does not hang.
        private final boolean[] hanging = new boolean[SITE_COUNT];
        private final SiteQueue queue = new SiteQueue();

        /** Lets oil push water out, or water oil. */
        void push(Numbers numbers, boolean[] shut, int pressure, boolean isOil) {
            for (int i = 0; i < SITE_COUNT; i++) {
                findHanging(shut);
                int site = nextPushed(numbers, pressure, isOil);
                if (site == NONE) {
                    break;
                }
                oil[site] = isOil;
            }
        }

        int countTrapped(boolean[] shut, boolean isOil) {
            findHanging(shut);
            int count = 0;
            for (int site = 0; site < SITE_COUNT; site++) {
                if (!shut[site] && oil[site] == isOil && !hanging[site]) {
                    count++;
                }
            }
            return count;
        }

        private int nextPushed(Numbers numbers, int pressure, boolean isOil) {
            for (int site = 0; site < SITE_COUNT; site++) {
                boolean canLeave = hanging[site] && oil[site] != isOil;
                boolean isWeak = (numbers.ofSite[site] < pressure) == isOil;
                if (canLeave && isWeak && isPressed(site, isOil)) {
                    return site;
                }
            }
            return NONE;
        }

        private boolean isPressed(int site, boolean isOil) {
            if (isOnSide(site, homeOf(isOil))) {
                return true;
            }
            for (int direction = 0; direction < DIRECTION_COUNT; direction++) {
                int next = siteBeside(site, direction);
                if (next != NONE && hanging[next] && oil[next] == isOil) {
                    return true;
                }
            }
            return false;
        }

        private void findHanging(boolean[] shut) {
            queue.forget();
            for (int site = 0; site < SITE_COUNT; site++) {
                hanging[site] = !shut[site] && isOnSide(site, homeOf(oil[site]));
                if (hanging[site]) {
                    queue.add(site);
                }
            }
            for (int i = 0; i < SITE_COUNT; i++) {
                int site = queue.next();
                if (site == NONE) {
                    break;
                }
                for (int direction = 0; direction < DIRECTION_COUNT; direction++) {
                    int next = siteBeside(site, direction);
                    if (next != NONE && !hanging[next] && !shut[next] && oil[next] == oil[site]) {
                        hanging[next] = true;
                        queue.add(next);
                    }
                }
            }
        }

        private static int homeOf(boolean isOil) {
            return isOil ? LEFT : RIGHT;
        }
    }
}
