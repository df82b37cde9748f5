/** Promises 20 to 24. */
public final class TimesTest {
    private static final int NONE = Seepwork.NONE;

    public static void main(String[] args) {
        promise20Time();
        promise21Ball();
        promise22Rival();
        promise23And24Invasion();
        Due.end();
    }

    private static void promise20Time() {
        Seepwork x = new Seepwork();
        Due.is("time(0, 0)", x.time(0, 0), 0);
        Due.is("time(0, 35)", x.time(0, 35), 10);
        Due.is("time(35, 0)", x.time(35, 0), 10);
        Due.is("time(5, 6)", x.time(5, 6), 6);
        x.bond(0, 7);
        Due.is("time(0, 1) by the other side", x.time(0, 1), 3);
        x.bond(30, 5);
        Due.is("time(0, 1)", x.time(0, 1), 8);
        x.bond(30, 4);
        Due.is("time(0, 1)", x.time(0, 1), 7);
        // NUMBERS of SITES do not count here.
        x.site(1, 999);
        Due.is("time(0, 1)", x.time(0, 1), 7);
        x.shut(6, true);
        Due.is("time(0, 1)", x.time(0, 1), 8);
        Due.is("time(6, 6)", x.time(6, 6), NONE);
        Due.is("time(6, 7)", x.time(6, 7), NONE);
        Due.is("time(7, 6)", x.time(7, 6), NONE);
        x.shut(1, true);
        Due.is("time(0, 35)", x.time(0, 35), NONE);
        Due.is("time(0, 0)", x.time(0, 0), 0);
        Seepwork far = new Seepwork();
        for (int bond = 0; bond < 60; bond++) {
            far.bond(bond, 999);
        }
        Due.is("time(0, 35) at most", far.time(0, 35), 10000);
        Due.noSuch(x, "time(-1, 0)", () -> x.time(-1, 0));
        Due.noSuch(x, "time(0, -1)", () -> x.time(0, -1));
        Due.noSuch(x, "time(36, 0)", () -> x.time(36, 0));
        Due.noSuch(x, "time(0, 36)", () -> x.time(0, 36));
    }

    private static void promise21Ball() {
        Seepwork x = new Seepwork();
        int[] due = {1, 3, 6, 10, 15, 21, 26, 30, 33, 35, 36, 36};
        for (int time = 0; time < due.length; time++) {
            Due.is("ball(0, " + time + ")", x.ball(0, time), due[time]);
        }
        Due.is("ball(14, 1)", x.ball(14, 1), 5);
        Due.is("ball(14, 60000)", x.ball(14, 60000), 36);
        x.bond(0, 3);
        Due.is("ball(0, 2)", x.ball(0, 2), 4);
        x.shut(6, true);
        Due.is("ball(0, 3)", x.ball(0, 3), 1);
        Due.is("ball(0, 4)", x.ball(0, 4), 2);
        Due.is("ball(0, 60000)", x.ball(0, 60000), 35);
        Due.is("ball(6, 60000)", x.ball(6, 60000), 0);
        Due.is("ball(6, 0)", x.ball(6, 0), 0);
        Due.noSuch(x, "ball(-1, 0)", () -> x.ball(-1, 0));
        Due.noSuch(x, "ball(36, -1)", () -> x.ball(36, -1));
        Due.outOfRange(x, "ball(0, -1)", () -> x.ball(0, -1));
        Due.outOfRange(x, "ball(0, 60001)", () -> x.ball(0, 60001));
    }

    private static void promise22Rival() {
        Seepwork x = new Seepwork();
        Due.is("rival(0, 5, 1)", x.rival(0, 5, 1), 0);
        Due.is("rival(0, 5, 4)", x.rival(0, 5, 4), 1);
        Due.is("rival(0, 4, 2)", x.rival(0, 4, 2), NONE);
        Due.is("rival(0, 4, 0)", x.rival(0, 4, 0), 0);
        Due.is("rival(0, 4, 4)", x.rival(0, 4, 4), 1);
        x.shut(0, true);
        Due.is("rival(0, 5, 1), the first one SHUT", x.rival(0, 5, 1), 1);
        Due.is("rival(5, 0, 1), the second one SHUT", x.rival(5, 0, 1), 0);
        Due.is("rival(1, 2, 0), the SITE SHUT", x.rival(1, 2, 0), NONE);
        x.shut(5, true);
        Due.is("rival(0, 5, 1), both SHUT", x.rival(0, 5, 1), NONE);
        // 30 is by itself now.
        x.shut(24, true);
        x.shut(31, true);
        Due.is("rival(30, 1, 1)", x.rival(30, 1, 1), 1);
        Due.is("rival(30, 1, 30)", x.rival(30, 1, 30), 0);
        Due.noSuch(x, "rival(-1, 0, 0)", () -> x.rival(-1, 0, 0));
        Due.noSuch(x, "rival(0, 36, 0)", () -> x.rival(0, 36, 0));
        Due.noSuch(x, "rival(0, 1, 36)", () -> x.rival(0, 1, 36));
        Due.noSuch(x, "rival(1, 1, -1)", () -> x.rival(1, 1, -1));
        Due.noSuch(x, "rival(36, 36, 0)", () -> x.rival(36, 36, 0));
        Due.outOfRange(x, "rival(1, 1, 0)", () -> x.rival(1, 1, 0));
    }

    private static void promise23And24Invasion() {
        Seepwork x = new Seepwork();
        // All BONDS alike: always the lowest one that leads on, the row of 14 first, then 6 by BOND 36, then its row.
        invasionIs(x, 14, new int[] {14, 13, 12, 15, 16, 17, 6, 7}, new int[] {NONE, 0, 0, 0, 0, 0, 0, 0});
        for (int bond = 0; bond < 60; bond++) {
            x.bond(bond, 500);
        }
        x.bond(0, 300);
        x.bond(30, 299);
        x.bond(31, 700);
        x.bond(5, 100);
        x.bond(6, 900);
        // 0 takes 6 by 299, then 7 by 100, then 1 by 300, then the lowest by 500: BOND 1 to 2.
        invasionIs(x, 0, new int[] {0, 6, 7, 1, 2}, new int[] {NONE, 299, 299, 300, 500});
        Due.is("invade(0, 35) is one", x.invade(0, 35) >= 0, true);
        Due.is("invaded(0, 35)", x.invaded(0, 35), 500);
        x.shut(6, true);
        invasionIs(x, 0, new int[] {0, 1, 2}, new int[] {NONE, 300, 500});
        Due.is("invade(0, 34) is one", x.invade(0, 34) >= 0, true);
        Due.is("invade(0, 35)", x.invade(0, 35), NONE);
        Due.is("invaded(0, 35)", x.invaded(0, 35), NONE);
        x.shut(1, true);
        invasionIs(x, 0, new int[] {0, NONE, NONE}, new int[] {NONE, NONE, NONE});
        wrongInvasions(x);
    }

    private static void invasionIs(Seepwork x, int site, int[] dueSites, int[] dueNumbers) {
        for (int n = 0; n < dueSites.length; n++) {
            Due.is("invade(" + site + ", " + n + ")", x.invade(site, n), dueSites[n]);
            Due.is("invaded(" + site + ", " + n + ")", x.invaded(site, n), dueNumbers[n]);
        }
    }

    /** 6 is SHUT. */
    private static void wrongInvasions(Seepwork x) {
        Due.noSuch(x, "invade(-1, 0)", () -> x.invade(-1, 0));
        Due.noSuch(x, "invade(36, 99)", () -> x.invade(36, 99));
        Due.outOfRange(x, "invade(0, -1)", () -> x.invade(0, -1));
        Due.outOfRange(x, "invade(6, 36)", () -> x.invade(6, 36));
        Due.badState(x, "invade(6, 0)", () -> x.invade(6, 0));
        Due.badState(x, "invade(6, 35)", () -> x.invade(6, 35));
        Due.noSuch(x, "invaded(-1, 0)", () -> x.invaded(-1, 0));
        Due.noSuch(x, "invaded(36, 99)", () -> x.invaded(36, 99));
        Due.outOfRange(x, "invaded(0, -1)", () -> x.invaded(0, -1));
        Due.outOfRange(x, "invaded(6, 36)", () -> x.invaded(6, 36));
        Due.badState(x, "invaded(6, 0)", () -> x.invaded(6, 0));
        Due.badState(x, "invaded(6, 35)", () -> x.invaded(6, 35));
    }
}
