/** Promises 27 to 30: what was seen, seasons. */
public final class SeenTest {
    private static final Checks CHECKS = new Checks("SeenTest");
    private static final int MONDAYS = 1 | 1 << 7 | 1 << 14 | 1 << 21;
    private static final int ALL_DAYS = (1 << 28) - 1;

    private static void seeing() {
        BishopsPeace x = new BishopsPeace();
        CHECKS.due("29: nothing seen", x.which(), ALL_DAYS);
        CHECKS.due("28: nothing to forget", x.forget(), 0);
        CHECKS.due("27: seen(6, 0, 1)", x.seen(6, 0, 1), 1);
        CHECKS.due("29: the first three days", x.which(), 7 * MONDAYS);
        CHECKS.due("27: seen(5, 0, 0)", x.seen(5, 0, 0), 2);
        CHECKS.due("29: MONDAYS", x.which(), MONDAYS);
        x.lent(1);
        CHECKS.due("29: not in LENT", x.which(), MONDAYS - 1);
        x.feast(7);
        CHECKS.due("29: not on a feast", x.which(), 1 << 14 | 1 << 21);
        x.land(1, 1, 1);
        CHECKS.due("27: a sworn land", x.seen(12, 1, 0), 3);
        CHECKS.due("29: as before", x.which(), 1 << 14 | 1 << 21);
        CHECKS.due("27: war there", x.seen(23, 1, 1), 4);
        CHECKS.due("29: on no day", x.which(), 0);
        CHECKS.due("27: the fifth", x.seen(0, 7, 0), 5);
        CHECKS.due("27: the sixth", x.seen(0, 7, 0), 6);
        CHECKS.due("27: FULL", x.seen(0, 7, 0), -4);
        CHECKS.due("27: BAD ahead of FULL", x.seen(24, 7, 0), -2);
        CHECKS.due("37: seen", x.count(3), 6);
        CHECKS.due("28: forget()", x.forget(), 6);
        CHECKS.due("37: none", x.count(3), 0);
        CHECKS.due("29: all days", x.which(), ALL_DAYS);
        int[][] bad = {{-1, 0, 0}, {24, 0, 0}, {0, -1, 0}, {0, 8, 0}, {0, 0, -1}, {0, 0, 2}};
        for (int[] b : bad) {
            CHECKS.due("27: BAD", x.seen(b[0], b[1], b[2]), -2);
        }
    }

    private static void otherBells() {
        BishopsPeace x = new BishopsPeace();
        x.land(2, 0, 3);
        x.bell(3, 1, 0);
        x.seen(0, 2, 0);
        x.seen(0, 0, 1);
        CHECKS.due("29: WEDNESDAYS by two bells", x.which(), MONDAYS << 2);
    }

    /** What a season leaves of 60 hours a week, by lots worked out here with long numbers. */
    private static int seasonOf(int seed) {
        int[] taken = {18, 24, 18, 0, 0, 0, 0};
        long now = seed & 0xffffffffL;
        int hours = 0;
        for (int week = 0; week < 4; week++) {
            now = (1103515245L * now + 12345) % (1L << 32);
            hours += 60 - taken[(int) (now / 65536 % 7)];
        }
        return hours;
    }

    private static void seasons() {
        BishopsPeace x = new BishopsPeace();
        for (int seed = -50; seed <= 50; seed++) {
            CHECKS.due("30: season(" + seed + ", 3)", x.season(seed, 3), seasonOf(seed));
        }
        for (int seed : new int[] {Integer.MIN_VALUE, Integer.MAX_VALUE, 123456789, -987654321}) {
            CHECKS.due("30: season(" + seed + ", 0)", x.season(seed, 0), seasonOf(seed));
        }
        CHECKS.due("30: the feasts are as before", x.count(2), 0);
        x.lent(15);
        CHECKS.due("30: LENT", x.season(7, 0), 0);
        x.lent(0);
        x.land(0, 1, 1);
        CHECKS.due("30: sworn", x.season(7, 0), 0);
        CHECKS.due("30: BAD", x.season(7, 8), -2);
        CHECKS.due("30: BAD", x.season(7, -1), -2);
    }

    // A lot that falls on a feast takes nothing more.
    private static void seasonsWithFeasts() {
        for (int seed = 0; seed < 40; seed++) {
            BishopsPeace x = new BishopsPeace();
            int without = x.season(seed, 0);
            int onTuesdays = 0;
            long now = seed;
            for (int week = 0; week < 4; week++) {
                now = (1103515245L * now + 12345) % (1L << 32);
                onTuesdays += now / 65536 % 7 == 1 ? 1 : 0;
                x.feast(7 * week + 1);
            }
            CHECKS.due("30: feasts on TUESDAYS", x.season(seed, 0), without - 24 * (4 - onTuesdays));
        }
    }

    public static void main(String[] args) {
        seeing();
        otherBells();
        seasons();
        seasonsWithFeasts();
        CHECKS.end();
    }
}
