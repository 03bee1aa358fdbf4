import java.math.BigInteger;

/** Each sentence on HOME, AGREE and MIDDLE that names a bound (promises 24 to 26). */
public final class HomeBoundsTest {
    private static final Checks CHECKS = new Checks("HomeBoundsTest");
    private static final String CHAIN = "ab1;bc1;cd1;de1;ef1;fg1;gh1";

    /** The answers that are due: above, below, hours, then the lands of the way. */
    private static void homeIs(String why, BishopsPeace x, int[] call, int... due) {
        for (int i = -4; i <= 7; i++) {
            int want = i == -1 ? -2 : i < -1 ? due[i + 4] : i + 3 < due.length ? due[i + 3] : -1;
            CHECKS.due("24: " + why + ": i = " + i, x.home(call[0], call[1], call[2], i), want);
        }
    }

    private static int[] call(int from, int to, int hour) {
        return new int[] {from, to, hour};
    }

    // "caught by DANGER sixteenths" (0 to 16), "FRACTIONS are told in lowest terms (0 by 1)".
    private static void everyDanger() {
        for (int danger = 0; danger <= 16; danger++) {
            BishopsPeace x = Checks.withRoads("ab1;bc1");
            x.land(1, 2, danger);
            int common = BigInteger.valueOf(16 - danger).gcd(BigInteger.valueOf(16)).intValue();
            homeIs("DANGER " + danger, x, call(0, 2, 30), (16 - danger) / common, 16 / common, 2, 0, 1, 2);
        }
    }

    // Six LANDS between, each with the same DANGER: as far below as it goes.
    private static void everyDangerSixTimes() {
        for (int danger = 0; danger <= 16; danger++) {
            BishopsPeace x = Checks.withRoads(CHAIN);
            for (int land = 0; land < 8; land++) {
                x.land(land, 2, danger);
            }
            BigInteger above = BigInteger.valueOf(16 - danger).pow(6);
            BigInteger below = BigInteger.valueOf(16).pow(6);
            BigInteger common = above.gcd(below);
            CHECKS.due("24: above, DANGER " + danger, x.home(0, 7, 30, -4), above.divide(common).longValue());
            CHECKS.due("24: below, DANGER " + danger, x.home(0, 7, 30, -3), below.divide(common).longValue());
            CHECKS.due("24: HOURS, DANGER " + danger, x.home(0, 7, 30, -2), 7);
        }
    }

    // "in each LAND that it comes to (but the last one)": neither where it is at first nor where it goes.
    private static void firstAndLastLand() {
        for (int lands = 2; lands <= 8; lands++) {
            BishopsPeace x = Checks.withRoads(CHAIN.substring(0, 4 * (lands - 1) - 1));
            x.land(0, 2, 16);
            x.land(lands - 1, 2, 16);
            for (int land = 1; land < lands - 1; land++) {
                x.land(land, 2, 8);
            }
            int[] due = new int[3 + lands];
            due[0] = 1;
            due[1] = 1 << lands - 2;
            due[2] = lands - 1;
            for (int k = 0; k < lands; k++) {
                due[3 + k] = k;
            }
            homeIs(lands + " LANDS", x, call(0, lands - 1, 30), due);
        }
    }

    // "while there is WAR": in the HOUR in which it comes; ahead of it, in it, in the last one, behind it.
    private static void inTheHour() {
        for (int hours : new int[] {1, 9}) {
            for (int week = 0; week < 4; week++) {
                int[] comes = {5, 6, 65, 66};
                int[] above = {1, 3, 3, 1};
                int[] below = {1, 4, 4, 1};
                for (int k = 0; k < comes.length; k++) {
                    BishopsPeace x = Checks.withRoads("ab" + hours + ";bc" + hours);
                    int hour = 168 * week + comes[k] - hours;
                    if (hour >= 0) {
                        homeIs("comes in " + comes[k], x, call(0, 2, hour), above[k], below[k], 2 * hours, 0, 1, 2);
                    }
                }
            }
        }
    }

    // "(beyond HOUR 671 there is PEACE)": HOUR 672 would be a MONDAY's first, 696 a TUESDAY's.
    private static void beyondTheLastHour() {
        for (int hour : new int[] {663, 669, 670, 671}) {
            BishopsPeace x = Checks.withRoads("ab9;bc9;cd9;de9;ef9;fg9;gh9");
            x.bell(0, 0, 0);
            homeIs("from HOUR " + hour, x, call(0, 7, hour), 1, 1, 63, 0, 1, 2, 3, 4, 5, 6, 7);
        }
        BishopsPeace x = Checks.withRoads("ab1;bc1");
        x.bell(0, 0, 0);
        homeIs("HOUR 672", x, call(0, 2, 671), 1, 1, 2, 0, 1, 2);
        homeIs("HOUR 168 is WAR", x, call(0, 2, 167), 3, 4, 2, 0, 1, 2);
        homeIs("HOUR 1 is WAR", x, call(0, 2, 0), 3, 4, 2, 0, 1, 2);
        CHECKS.due("24: from HOUR 672", x.home(0, 2, 672, 0), -2);
        CHECKS.due("24: from HOUR -1", x.home(0, 2, -1, 0), -2);
    }

    // "(no LAND twice, 7 ROADS at most)": seven ROADS through all LANDS are gone, if they are safer.
    private static void sevenRoads() {
        BishopsPeace x = Checks.withRoads(CHAIN + ";ac1;ch1");
        homeIs("c is as DANGEROUS as the others", x, call(0, 7, 30), 3, 4, 2, 0, 2, 7);
        for (int land = 1; land <= 6; land++) {
            x.land(land, 1, 1);
        }
        x.land(2, 1, 0);
        homeIs("c lies on all ways", x, call(0, 7, 30), 3, 4, 2, 0, 2, 7);
        BishopsPeace y = Checks.withRoads(CHAIN + ";ag1");
        for (int land = 1; land <= 5; land++) {
            y.land(land, 1, 1);
        }
        y.land(6, 0, 1);
        y.bell(1, 1, 0);
        homeIs("in g in HOUR 47: WAR; by all LANDS in 52: PEACE", y, call(0, 7, 46), 1, 1, 7, 0, 1, 2, 3, 4, 5, 6, 7);
        homeIs("all come in WAR", y, call(0, 7, 30), 3, 4, 2, 0, 6, 7);
    }

    // "(no LAND twice ...)": by a LAND aside, to and fro, it would come to b in PEACE.
    private static void noLandTwice() {
        for (char from : "adefgh".toCharArray()) {
            char aside = from == 'h' ? 'a' : 'h';
            BishopsPeace first = Checks.withRoads(from + "b1;bc1;" + from + aside + "9");
            homeIs("not back to the first LAND", first, call(from - 'a', 2, 60), 3, 4, 2, from - 'a', 1, 2);
        }
        for (char between : "adefg".toCharArray()) {
            BishopsPeace later = Checks.withRoads("h" + between + "1;" + between + "b1;bc1;" + between + (between == 'a' ? "d9" : "a9"));
            later.land(between - 'a', 1, 1);
            later.land(between == 'a' ? 3 : 0, 1, 1);
            homeIs("not back to a later LAND", later, call(7, 2, 60), 3, 4, 3, 7, between - 'a', 1, 2);
        }
    }

    // Nothing of an earlier way is left, where there is none.
    private static void noWayBehindOne() {
        BishopsPeace x = Checks.withRoads("ab1;bc1");
        homeIs("a way", x, call(0, 2, 30), 3, 4, 2, 0, 1, 2);
        homeIs("none behind it", x, call(0, 3, 30), 0, 1, -1);
        x.wipe();
        homeIs("wiped", x, call(0, 2, 30), 0, 1, -1);
        Checks.typeAll(x, "bc1");
        homeIs("fewer ROADS", x, call(0, 1, 30), 0, 1, -1);
        homeIs("the one that is left", x, call(2, 1, 30), 1, 1, 1, 2, 1);
    }

    // "of like ones that of fewest HOURS": one HOUR less, by a greater row.
    private static void fewestHours() {
        BishopsPeace x = Checks.withRoads("ab2;bh2;ag2;gh1");
        homeIs("3 HOURS by g", x, call(0, 7, 30), 3, 4, 3, 0, 6, 7);
        x.land(1, 2, 3);
        homeIs("the greater chance is ahead of HOURS", x, call(0, 7, 30), 13, 16, 4, 0, 1, 7);
    }

    // "of like ones the least row of LANDS": by the first LAND that differs, be the row longer or not.
    private static void leastRow() {
        BishopsPeace x = Checks.withRoads("ac1;ch1;ab1;bh1");
        homeIs("b ahead of c", x, call(0, 7, 100), 1, 1, 2, 0, 1, 7);
        BishopsPeace longer = Checks.withRoads("ah3;ab1;bc1;ch1");
        homeIs("a longer row is the lesser one", longer, call(0, 7, 100), 1, 1, 3, 0, 1, 2, 7);
        BishopsPeace shorter = Checks.withRoads("da1;ab1;bc1;dc3");
        homeIs("by a", shorter, call(3, 2, 100), 1, 1, 3, 3, 0, 1, 2);
        homeIs("back by b", shorter, call(2, 3, 100), 1, 1, 3, 2, 1, 0, 3);
        BishopsPeace lateTie = Checks.withRoads("ab1;bd1;bc1;de1;ce1");
        homeIs("the third LAND decides", lateTie, call(0, 4, 100), 1, 1, 3, 0, 1, 2, 4);
        BishopsPeace twice = Checks.withRoads("ab4;ab4;ab5");
        homeIs("like ROADS", twice, call(0, 1, 30), 1, 1, 4, 0, 1);
    }

    // "NONE: there is no way (the chance 0 by 1)"; a way without a chance is a way.
    private static void noWay() {
        homeIs("no ROADS", new BishopsPeace(), call(0, 7, 30), 0, 1, -1);
        homeIs("no ROAD to h", Checks.withRoads("ab1;bc1"), call(0, 7, 30), 0, 1, -1);
        homeIs("a FAULT", Checks.withRoads("ah1;"), call(0, 7, 30), 0, 1, -1);
        BishopsPeace x = Checks.withRoads("ab1;bh1");
        x.land(1, 2, 16);
        homeIs("DANGER 16", x, call(0, 7, 30), 0, 1, 2, 0, 1, 7);
    }

    private static BishopsPeace withBells(int... bells) {
        BishopsPeace x = new BishopsPeace();
        for (int k = 0; k < 8; k++) {
            x.bell(k / 2, k % 2, bells[k]);
        }
        return x;
    }

    private static void agreeIs(BishopsPeace x, int... due) {
        for (int what = -1; what <= 3; what++) {
            CHECKS.due("25: agree(" + what + ")", x.agree(what), what >= 0 && what <= 2 ? due[what] : -2);
        }
    }

    private static void middleIs(BishopsPeace x, int... due) {
        for (int what = -1; what <= 3; what++) {
            CHECKS.due("26: middle(" + what + ")", x.middle(what), what >= 0 && what <= 2 ? due[what] : -2);
        }
    }

    // "AGREE: the fewest PARISHES (of all four)": from none to three; a PARISH without a LAND counts, too.
    private static void agreeNoneToThree() {
        agreeIs(new BishopsPeace(), 0, 6, 18);
        agreeIs(withBells(0, 0, 0, 0, 0, 0, 0, 0), 0, 0, 0);
        agreeIs(withBells(23, 23, 23, 23, 23, 23, 23, 23), 0, 23, 23);
        for (int odd = 0; odd < 4; odd++) {
            int[] bells = {6, 18, 6, 18, 6, 18, 6, 18};
            bells[2 * odd] = 0;
            agreeIs(withBells(bells), 1, 6, 18);
            bells[2 * odd + 1] = 0;
            agreeIs(withBells(bells), 1, 6, 18);
        }
        agreeIs(withBells(1, 0, 2, 0, 3, 0, 4, 0), 3, 1, 0);
        agreeIs(withBells(0, 23, 0, 22, 0, 21, 0, 20), 3, 0, 20);
    }

    // "(of like ones the least, MONDAY's ahead)": wherever the least stand, and whatever WEDNESDAY's are.
    private static void agreeLeast() {
        int[][] orders = {{0, 1, 2, 3}, {1, 0, 3, 2}, {3, 2, 1, 0}, {2, 3, 0, 1}};
        int[][] four = {{5, 23}, {6, 0}, {6, 1}, {7, 0}};
        int[][] twoAndTwo = {{9, 4}, {9, 4}, {9, 5}, {9, 5}};
        int[][] twoOfLater = {{0, 0}, {1, 1}, {2, 2}, {2, 2}};
        for (int[] o : orders) {
            agreeIs(ordered(four, o), 3, 5, 23);
            agreeIs(ordered(twoAndTwo, o), 2, 9, 4);
            agreeIs(ordered(twoOfLater, o), 2, 2, 2);
        }
    }

    private static BishopsPeace ordered(int[][] both, int[] order) {
        int[] bells = new int[8];
        for (int p = 0; p < 4; p++) {
            bells[2 * p] = both[order[p]][0];
            bells[2 * p + 1] = both[order[p]][1];
        }
        return withBells(bells);
    }

    // "MIDDLE: BELLS by which all HOURS of change (of all PARISHES, forth or back) are least together, of like ones the least".
    private static void middleNoneToMost() {
        middleIs(new BishopsPeace(), 0, 6, 18);
        middleIs(withBells(0, 0, 0, 0, 0, 0, 0, 0), 0, 0, 0);
        middleIs(withBells(1, 22, 1, 22, 1, 22, 1, 22), 0, 1, 22);
        middleIs(withBells(22, 1, 22, 1, 22, 1, 22, 1), 0, 22, 1);
        middleIs(withBells(23, 23, 23, 23, 23, 23, 23, 23), 0, 23, 23);
        middleIs(withBells(0, 23, 23, 0, 0, 23, 23, 0), 92, 0, 0);
        middleIs(withBells(0, 23, 23, 23, 23, 23, 23, 0), 46, 23, 23);
        middleIs(withBells(22, 1, 23, 0, 23, 0, 22, 1), 4, 22, 0);
        middleIs(withBells(3, 9, 1, 7, 4, 10, 2, 8), 8, 2, 8);
        middleIs(withBells(6, 18, 6, 18, 6, 18, 7, 17), 2, 6, 18);
    }

    // FEASTS, LENT and SWORN LANDS change neither.
    private static void bellsAlone() {
        BishopsPeace x = withBells(1, 2, 3, 4, 5, 6, 7, 8);
        x.lent(15);
        x.feast(0);
        x.land(0, 1, 1);
        agreeIs(x, 3, 1, 2);
        middleIs(x, 16, 3, 4);
    }

    public static void main(String[] args) {
        everyDanger();
        everyDangerSixTimes();
        firstAndLastLand();
        inTheHour();
        beyondTheLastHour();
        sevenRoads();
        noLandTwice();
        fewestHours();
        leastRow();
        noWay();
        noWayBehindOne();
        agreeNoneToThree();
        agreeLeast();
        middleNoneToMost();
        bellsAlone();
        CHECKS.end();
    }
}
