import java.util.ArrayDeque;
import java.util.ArrayList;
import java.util.Arrays;
import java.util.List;
import java.util.TreeSet;

/** A second program for the document: it takes each word as it stands, and the slowest way to each answer. */
final class Model {
    private static final int FAR = 1_000_000;

    final int[][] ends = new int[60][];
    final int[] bondNumber = new int[60];
    final int[] siteNumber = new int[36];
    final TreeSet<Integer> shut = new TreeSet<>();
    final TreeSet<Integer> wet = new TreeSet<>();
    final TreeSet<Integer> trees = new TreeSet<>();
    final TreeSet<Integer> oil = new TreeSet<>();
    final int[] strength = new int[12];
    String name = "";
    long draw = 0;

    Model() {
        for (int row = 0; row < 6; row++) {
            for (int column = 0; column < 6; column++) {
                if (column < 5) {
                    ends[5 * row + column] = new int[] {6 * row + column, 6 * row + column + 1};
                }
                if (row < 5) {
                    ends[30 + 6 * row + column] = new int[] {6 * row + column, 6 * (row + 1) + column};
                }
            }
        }
        Arrays.fill(strength, 100);
    }

    static void need(boolean isTrue) {
        if (!isTrue) {
            throw new IllegalArgumentException();
        }
    }

    static void needIndex(int index, int count) {
        if (index < 0 || index >= count) {
            throw new IndexOutOfBoundsException();
        }
    }

    static void needState(boolean isTrue) {
        if (!isTrue) {
            throw new IllegalStateException();
        }
    }

    static boolean areBeside(int one, int other) {
        return Math.abs(one / 6 - other / 6) + Math.abs(one % 6 - other % 6) == 1;
    }

    List<Integer> beside(int site) {
        List<Integer> list = new ArrayList<>();
        for (int other = 0; other < 36; other++) {
            if (areBeside(site, other)) {
                list.add(other);
            }
        }
        return list;
    }

    // ---- SITES, BONDS

    static long next(long z) {
        return (25173L * z + 13849L) % 65536L;
    }

    void seed(int z) {
        need(z >= 0 && z <= 65535);
        long drawn = z;
        for (int i = 0; i < 96; i++) {
            drawn = next(drawn);
            if (i < 60) {
                bondNumber[i] = (int) (drawn % 1000);
            } else {
                siteNumber[i - 60] = (int) (drawn % 1000);
            }
        }
    }

    int bond(int bond, int number) {
        needIndex(bond, 60);
        need(number >= 0 && number <= 999);
        int before = bondNumber[bond];
        bondNumber[bond] = number;
        return before;
    }

    int site(int site, int number) {
        needIndex(site, 36);
        need(number >= 0 && number <= 999);
        int before = siteNumber[site];
        siteNumber[site] = number;
        return before;
    }

    int numberOf(int kind, int bond) {
        needIndex(bond, 60);
        needKind(kind);
        TreeSet<Integer> all = new TreeSet<>();
        if (kind != 1) {
            all.add(bondNumber[bond]);
        }
        if (kind != 0) {
            all.add(siteNumber[ends[bond][0]]);
            all.add(siteNumber[ends[bond][1]]);
        }
        return all.last();
    }

    boolean shut(int site, boolean isShut) {
        needIndex(site, 36);
        boolean before = shut.contains(site);
        if (isShut) {
            shut.add(site);
            trees.remove(site);
            wet.remove(site);
            oil.remove(site);
        } else {
            shut.remove(site);
        }
        return before;
    }

    int strike(int n) {
        need(n >= 0 && n <= 36);
        for (int i = 0; i < n && shut.size() < 36; i++) {
            int best = -1;
            for (int degree = 4; degree >= 0 && best < 0; degree--) {
                for (int site = 35; site >= 0; site--) {
                    if (!shut.contains(site) && notShutBeside(site) == degree) {
                        best = site;
                    }
                }
            }
            shut(best, true);
        }
        return shut.size();
    }

    private int notShutBeside(int site) {
        List<Integer> list = beside(site);
        list.removeAll(shut);
        return list.size();
    }

    // ---- thresholds

    static void needKind(int kind) {
        need(kind >= 0 && kind <= 2);
    }

    static void needThreshold(int kind, int p) {
        needKind(kind);
        need(p >= 0 && p <= 1000);
    }

    boolean isOpenSite(int kind, int p, int site) {
        return !shut.contains(site) && (kind == 0 || siteNumber[site] < p);
    }

    boolean isOpenBond(int kind, int p, int bond) {
        return isOpenSite(kind, p, ends[bond][0]) && isOpenSite(kind, p, ends[bond][1])
                && (kind == 1 || bondNumber[bond] < p);
    }

    /** The least numbers of BONDS between all SITES, with one BOND lost, or none by -1. */
    private int[][] distances(int kind, int p, int lost) {
        int[][] far = new int[36][36];
        for (int site = 0; site < 36; site++) {
            Arrays.fill(far[site], FAR);
            far[site][site] = isOpenSite(kind, p, site) ? 0 : FAR;
        }
        for (int bond = 0; bond < 60; bond++) {
            if (bond != lost && isOpenBond(kind, p, bond)) {
                far[ends[bond][0]][ends[bond][1]] = 1;
                far[ends[bond][1]][ends[bond][0]] = 1;
            }
        }
        shorten(far);
        return far;
    }

    private static void shorten(int[][] far) {
        for (int over = 0; over < 36; over++) {
            for (int from = 0; from < 36; from++) {
                for (int to = 0; to < 36; to++) {
                    far[from][to] = Math.min(far[from][to], far[from][over] + far[over][to]);
                }
            }
        }
    }

    private static int leastBetweenSides(int[][] far, boolean isDown) {
        int least = FAR;
        for (int i = 0; i < 6; i++) {
            for (int j = 0; j < 6; j++) {
                int distance = isDown ? far[i][30 + j] : far[6 * i][6 * j + 5];
                least = Math.min(least, distance);
            }
        }
        return least;
    }

    int cluster(int kind, int p, int site) {
        needIndex(site, 36);
        needThreshold(kind, p);
        int[][] far = distances(kind, p, -1);
        for (int lowest = 0; lowest < 36; lowest++) {
            if (far[lowest][site] < FAR) {
                return lowest;
            }
        }
        return -1;
    }

    int sizes(int kind, int p, int what) {
        needThreshold(kind, p);
        need(what >= 0 && what <= 2);
        int[] size = new int[36];
        for (int site = 0; site < 36; site++) {
            int lowest = cluster(kind, p, site);
            if (lowest >= 0) {
                size[lowest]++;
            }
        }
        int many = 0;
        int greatest = 0;
        int squares = 0;
        for (int one : size) {
            many += one > 0 ? 1 : 0;
            greatest = Math.max(greatest, one);
            squares += one * one;
        }
        return what == 0 ? many : what == 1 ? greatest : squares;
    }

    boolean spans(int kind, int p, boolean isDown) {
        needThreshold(kind, p);
        return leastBetweenSides(distances(kind, p, -1), isDown) < FAR;
    }

    int edge(int kind, boolean isDown) {
        needKind(kind);
        TreeSet<Integer> thresholds = new TreeSet<>();
        for (int bond = 0; bond < 60; bond++) {
            thresholds.add(numberOf(kind, bond) + 1);
        }
        for (int p : thresholds) {
            if (spans(kind, p, isDown)) {
                return p;
            }
        }
        return -1;
    }

    /** Ways are found by depth, over arcs in both directions, from one place ahead of the left column to one behind. */
    int ways(int kind, int p) {
        needThreshold(kind, p);
        int[][] room = new int[38][38];
        for (int bond = 0; bond < 60; bond++) {
            if (isOpenBond(kind, p, bond)) {
                room[ends[bond][0]][ends[bond][1]] = 1;
                room[ends[bond][1]][ends[bond][0]] = 1;
            }
        }
        for (int row = 0; row < 6; row++) {
            room[36][6 * row] = FAR;
            room[6 * row + 5][37] = FAR;
        }
        int ways = 0;
        while (push(room, 36, new boolean[38])) {
            ways++;
        }
        return ways;
    }

    private boolean push(int[][] room, int from, boolean[] seen) {
        if (from == 37) {
            return true;
        }
        seen[from] = true;
        for (int to = 37; to >= 0; to--) {
            if (!seen[to] && room[from][to] > 0 && push(room, to, seen)) {
                room[from][to]--;
                room[to][from]++;
                return true;
            }
        }
        return false;
    }

    int red(int kind, int p) {
        if (!spans(kind, p, false)) {
            return 0;
        }
        int red = 0;
        for (int bond = 0; bond < 60; bond++) {
            if (leastBetweenSides(distances(kind, p, bond), false) >= FAR) {
                red++;
            }
        }
        return red;
    }

    int shortest(int kind, int p) {
        needThreshold(kind, p);
        int least = leastBetweenSides(distances(kind, p, -1), false);
        return least < FAR ? least : -1;
    }

    // ---- times

    private int[][] times() {
        int[][] far = new int[36][36];
        for (int site = 0; site < 36; site++) {
            Arrays.fill(far[site], FAR);
            far[site][site] = shut.contains(site) ? FAR : 0;
        }
        for (int bond = 0; bond < 60; bond++) {
            if (isOpenBond(0, 1000, bond)) {
                far[ends[bond][0]][ends[bond][1]] = bondNumber[bond] + 1;
                far[ends[bond][1]][ends[bond][0]] = bondNumber[bond] + 1;
            }
        }
        shorten(far);
        return far;
    }

    int time(int from, int to) {
        needIndex(from, 36);
        needIndex(to, 36);
        int time = times()[from][to];
        return time < FAR ? time : -1;
    }

    int ball(int site, int time) {
        needIndex(site, 36);
        need(time >= 0 && time <= 60000);
        int count = 0;
        for (int one : times()[site]) {
            count += one <= time ? 1 : 0;
        }
        return count;
    }

    int rival(int one, int other, int site) {
        needIndex(one, 36);
        needIndex(other, 36);
        needIndex(site, 36);
        need(one != other);
        int[][] far = times();
        return Integer.compare(far[one][site], far[other][site]) == 0 ? -1 : far[one][site] < far[other][site] ? 0 : 1;
    }

    /** What comes: pairs of a SITE and the NUMBER of its BOND. */
    private List<int[]> invasion(int site, int n) {
        needIndex(site, 36);
        need(n >= 0 && n <= 35);
        needState(!shut.contains(site));
        TreeSet<Integer> there = new TreeSet<>();
        there.add(site);
        List<int[]> come = new ArrayList<>();
        come.add(new int[] {site, -1});
        for (boolean isOn = true; isOn;) {
            isOn = false;
            for (int number = 0; number < 1000 && !isOn; number++) {
                for (int bond = 0; bond < 60 && !isOn; bond++) {
                    boolean isFirst = there.contains(ends[bond][0]);
                    boolean isOther = there.contains(ends[bond][1]);
                    int to = isFirst ? ends[bond][1] : ends[bond][0];
                    if (bondNumber[bond] == number && isFirst != isOther && !shut.contains(to)) {
                        there.add(to);
                        come.add(new int[] {to, number});
                        isOn = true;
                    }
                }
            }
        }
        return come;
    }

    int invade(int site, int n) {
        List<int[]> come = invasion(site, n);
        return n < come.size() ? come.get(n)[0] : -1;
    }

    int invaded(int site, int n) {
        List<int[]> come = invasion(site, n);
        if (n >= come.size()) {
            return -1;
        }
        int greatest = -1;
        for (int i = 0; i <= n; i++) {
            greatest = Math.max(greatest, come.get(i)[1]);
        }
        return greatest;
    }

    // ---- wet ones, woods

    boolean wet(int site, boolean isWet) {
        needIndex(site, 36);
        needState(!shut.contains(site));
        boolean before = wet.contains(site);
        if (isWet) {
            wet.add(site);
        } else {
            wet.remove(site);
        }
        return before;
    }

    int filled(int k, int what) {
        need(k >= 1 && k <= 4 && what >= 0 && what <= 1);
        TreeSet<Integer> full = new TreeSet<>(wet);
        int rounds = 0;
        while (true) {
            TreeSet<Integer> more = new TreeSet<>();
            for (int site = 0; site < 36; site++) {
                List<Integer> near = beside(site);
                near.retainAll(full);
                if (near.size() >= k && !full.contains(site) && !shut.contains(site)) {
                    more.add(site);
                }
            }
            if (more.isEmpty()) {
                return what == 0 ? full.size() : rounds;
            }
            full.addAll(more);
            rounds++;
        }
    }

    int leastWet(int w, int h, int k) {
        need(w >= 1 && w <= 4 && h >= 1 && h <= 4 && k >= 1 && k <= 4 && w * h <= 12);
        for (int many = 0; ; many++) {
            for (int set = 0; set < 1 << w * h; set++) {
                if (Integer.bitCount(set) == many && fillsAll(w, h, k, set)) {
                    return many;
                }
            }
        }
    }

    private static boolean fillsAll(int w, int h, int k, int set) {
        boolean[][] isWet = new boolean[h + 2][w + 2];
        for (int place = 0; place < w * h; place++) {
            isWet[1 + place / w][1 + place % w] = (set >> place & 1) == 1;
        }
        int dry = w * h - Integer.bitCount(set);
        for (boolean isOn = true; isOn && dry > 0;) {
            isOn = false;
            for (int r = 1; r <= h; r++) {
                for (int c = 1; c <= w; c++) {
                    int near = (isWet[r - 1][c] ? 1 : 0) + (isWet[r + 1][c] ? 1 : 0) + (isWet[r][c - 1] ? 1 : 0)
                            + (isWet[r][c + 1] ? 1 : 0);
                    if (!isWet[r][c] && near >= k) {
                        isWet[r][c] = true;
                        isOn = true;
                        dry--;
                    }
                }
            }
        }
        return dry == 0;
    }

    int grow(int n) {
        need(n >= 1 && n <= 200);
        for (int i = 0; i < n; i++) {
            draw = next(draw);
            if (!shut.contains((int) (draw % 36))) {
                trees.add((int) (draw % 36));
            }
        }
        return trees.size();
    }

    int lightning(int site) {
        needIndex(site, 36);
        int before = trees.size();
        ArrayDeque<Integer> fire = new ArrayDeque<>();
        fire.push(site);
        while (!fire.isEmpty()) {
            int one = fire.pop();
            if (trees.remove(one)) {
                fire.addAll(beside(one));
            }
        }
        return before - trees.size();
    }

    // ---- FIBRES

    int fibre(int fibre, int told) {
        needIndex(fibre, 12);
        need(told >= 1 && told <= 1000);
        int before = strength[fibre];
        strength[fibre] = told;
        return before;
    }

    int load(int load, boolean isLocal) {
        need(load >= 0 && load <= 20000);
        return isLocal ? loadByNeighbours(load) : loadEvenly(load);
    }

    private int loadEvenly(int load) {
        List<Integer> whole = new ArrayList<>();
        for (int one : strength) {
            whole.add(one);
        }
        while (!whole.isEmpty()) {
            int each = load / whole.size();
            if (!whole.removeIf(one -> each > one)) {
                break;
            }
        }
        return 12 - whole.size();
    }

    private int loadByNeighbours(int load) {
        TreeSet<Integer> whole = new TreeSet<>();
        int[] bears = new int[12];
        for (int fibre = 0; fibre < 12; fibre++) {
            whole.add(fibre);
            bears[fibre] = load / 12;
        }
        while (true) {
            TreeSet<Integer> now = new TreeSet<>();
            for (int fibre : whole) {
                if (bears[fibre] > strength[fibre]) {
                    now.add(fibre);
                }
            }
            whole.removeAll(now);
            if (now.isEmpty() || whole.isEmpty()) {
                return 12 - whole.size();
            }
            for (int fibre : now) {
                int lower = whole.lower(fibre) != null ? whole.lower(fibre) : whole.last();
                int higher = whole.higher(fibre) != null ? whole.higher(fibre) : whole.first();
                bears[lower] += bears[fibre] / 2;
                bears[higher] += bears[fibre] - bears[fibre] / 2;
            }
        }
    }

    int lastStraw(boolean isLocal) {
        int load = 0;
        while (load(load, isLocal) < 12) {
            load++;
        }
        return load - 1;
    }

    // ---- oil and water

    /** The SITES, not SHUT, at which oil, or water, hangs. */
    private TreeSet<Integer> hanging(boolean isOil) {
        TreeSet<Integer> hanging = new TreeSet<>();
        for (int round = 0; round < 36; round++) {
            for (int site = 0; site < 36; site++) {
                if (oil.contains(site) != isOil || shut.contains(site)) {
                    continue;
                }
                List<Integer> near = beside(site);
                near.retainAll(hanging);
                if (site % 6 == (isOil ? 0 : 5) || !near.isEmpty()) {
                    hanging.add(site);
                }
            }
        }
        return hanging;
    }

    private int nextOf(int pressure, boolean isDrain) {
        TreeSet<Integer> comes = hanging(isDrain);
        TreeSet<Integer> leaves = hanging(!isDrain);
        for (int site : leaves) {
            List<Integer> near = beside(site);
            near.retainAll(comes);
            boolean isThere = site % 6 == (isDrain ? 0 : 5) || !near.isEmpty();
            boolean isForced = isDrain ? siteNumber[site] < pressure : siteNumber[site] >= pressure;
            if (isThere && isForced) {
                return site;
            }
        }
        return -1;
    }

    int drain(int pressure) {
        need(pressure >= 0 && pressure <= 1000);
        for (int site = nextOf(pressure, true); site >= 0; site = nextOf(pressure, true)) {
            oil.add(site);
        }
        return oil.size();
    }

    int soak(int pressure) {
        need(pressure >= 0 && pressure <= 1000);
        for (int site = nextOf(pressure, false); site >= 0; site = nextOf(pressure, false)) {
            oil.remove(site);
        }
        return oil.size();
    }

    int trapped(boolean isOil) {
        int all = isOil ? oil.size() : 36 - oil.size() - shut.size();
        return all - hanging(isOil).size();
    }

    // ---- scale, measures

    int estimate(int kind, int p, int n) {
        needThreshold(kind, p);
        need(n >= 1 && n <= 30);
        int count = 0;
        for (int seed = 1; seed <= n; seed++) {
            Model other = new Model();
            other.shut.addAll(shut);
            other.seed(seed);
            count += other.spans(kind, p, false) ? 1 : 0;
        }
        return count;
    }

    int type(int letter) {
        need(letter >= 97 && letter <= 122);
        needState(name.length() < 8);
        name += (char) letter;
        return name.length();
    }

    int wipe() {
        int before = name.length();
        name = "";
        return before;
    }

    int measure(int kind, int p) {
        needThreshold(kind, p);
        switch (name) {
            case "many":
                return sizes(kind, p, 0);
            case "size":
                return sizes(kind, p, 1);
            case "span":
                return spans(kind, p, false) ? 1 : 0;
            case "cut":
                return ways(kind, p);
            case "red":
                return red(kind, p);
            case "way":
                return shortest(kind, p);
            default:
                throw new IllegalStateException();
        }
    }

    int count(int what) {
        need(what >= 0 && what <= 4);
        int[] all = {shut.size(), trees.size(), wet.size(), oil.size(), name.length()};
        return all[what];
    }
}
