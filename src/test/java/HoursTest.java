/** Promises 13 to 19: war, strikes, what a week leaves, ways. */
public final class HoursTest {
    private static final Checks CHECKS = new Checks("HoursTest");
    private static final int MIN = Integer.MIN_VALUE, MAX = Integer.MAX_VALUE;

    private static void wars() {
        BishopsPeace x = new BishopsPeace();
        for (int week = 0; week < 4; week++) {
            int[] hours = {0, 5, 6, 23, 24, 47, 48, 65, 66, 71, 72, 96, 167};
            int[] due = {0, 0, 1, 1, 1, 1, 1, 1, 0, 0, 0, 0, 0};
            for (int k = 0; k < hours.length; k++) {
                CHECKS.due("13: war in hour " + hours[k], x.war(168 * week + hours[k], 0), due[k]);
            }
        }
        x.land(3, 0, 2);
        x.bell(2, 0, 0);
        x.bell(2, 1, 0);
        CHECKS.due("13: MONDAY's bell at 0", x.war(0, 3), 1);
        CHECKS.due("13: WEDNESDAY's bell at 0", x.war(47, 3), 1);
        CHECKS.due("13: WEDNESDAY's bell at 0", x.war(48, 3), 0);
        CHECKS.due("13: another parish", x.war(48, 2), 1);
        x.feast(2);
        CHECKS.due("13: a feast", x.war(48, 2), 0);
        CHECKS.due("13: ahead of it", x.war(47, 2), 1);
        x.feast(27);
        x.lent(2);
        CHECKS.due("13: LENT", x.war(168 + 30, 2), 0);
        CHECKS.due("13: no LENT", x.war(336 + 30, 2), 1);
        x.land(2, 1, 1);
        CHECKS.due("13: sworn", x.war(30, 2), 0);
        CHECKS.due("13: not sworn", x.war(30, 4), 1);
        int[][] bad = {{672, 0}, {-1, 0}, {0, 8}, {0, -1}, {MIN, 0}, {MAX, 0}, {0, MIN}, {0, MAX}};
        for (int[] b : bad) {
            CHECKS.due("13: war(" + b[0] + ", " + b[1] + ")", x.war(b[0], b[1]), -2);
        }
    }

    private static void strikes() {
        BishopsPeace x = new BishopsPeace();
        int[] days = {10, 30, 50, 80};
        for (int d = 0; d < 4; d++) {
            for (int one = 0; one < 4; one++) {
                for (int other = 0; other < 4; other++) {
                    boolean may = one == 0 || one == 2 && d == 1;
                    int due = d < 3 && may && other < 3 ? 1 : 0;
                    String call = "14: strikes(" + days[d] + ", 0, " + one + ", " + other + ")";
                    CHECKS.due(call, x.strikes(days[d], 0, one, other), due);
                }
            }
        }
        CHECKS.due("14: the last hour of MONDAY", x.strikes(23, 0, 2, 0), 0);
        CHECKS.due("14: the first hour of TUESDAY", x.strikes(24, 0, 2, 0), 1);
        CHECKS.due("14: the last hour of TUESDAY", x.strikes(528 + 23, 0, 2, 2), 1);
        CHECKS.due("14: the first hour of WEDNESDAY", x.strikes(48, 0, 2, 0), 0);
        x.land(0, 1, 1);
        CHECKS.due("14: a sworn land", x.strikes(30, 0, 0, 0), 0);
        int[][] bad = {{-1, 0, 0, 0}, {672, 0, 0, 0}, {0, -1, 0, 0}, {0, 8, 0, 0}, {0, 0, -1, 0}, {0, 0, 4, 0},
            {0, 0, 0, -1}, {0, 0, 0, 4}};
        for (int[] b : bad) {
            CHECKS.due("14: BAD", x.strikes(b[0], b[1], b[2], b[3]), -2);
        }
    }

    private static void nextHours() {
        BishopsPeace x = new BishopsPeace();
        int[][] calls = {{0, 1, 6}, {0, 0, 0}, {6, 1, 6}, {6, 0, 66}, {65, 1, 65}, {66, 1, 174}, {569, 1, 569},
            {570, 1, -1}, {671, 0, 671}, {671, 1, -1}};
        for (int[] c : calls) {
            CHECKS.due("15: next(" + c[0] + ", 5, " + c[1] + ")", x.next(c[0], 5, c[1]), c[2]);
        }
        x.feast(1);
        CHECKS.due("15: a feast", x.next(6, 0, 0), 24);
        CHECKS.due("15: behind it", x.next(24, 0, 1), 48);
        int[][] bad = {{-1, 0, 0}, {672, 0, 0}, {0, 8, 0}, {0, -1, 0}, {0, 0, 2}, {0, 0, -1}};
        for (int[] b : bad) {
            CHECKS.due("15: BAD", x.next(b[0], b[1], b[2]), -2);
        }
    }

    private static void weeks() {
        BishopsPeace x = new BishopsPeace();
        CHECKS.due("16: left(0, 0)", x.left(0, 0), 60);
        CHECKS.due("17: best(0)", x.best(0), 0);
        x.feast(0);
        x.feast(8);
        x.feast(16);
        x.feast(27);
        int[] due = {42, 36, 42, 60};
        for (int week = 0; week < 4; week++) {
            CHECKS.due("16: left(" + week + ", 0)", x.left(week, 0), due[week]);
        }
        CHECKS.due("17: best(0)", x.best(0), 3);
        x.lent(8);
        CHECKS.due("17: of like ones the first", x.best(0), 0);
        x.lent(5);
        CHECKS.due("17: the last week", x.best(0), 3);
        x.lent(13);
        CHECKS.due("17: the second week", x.best(0), 1);
        x.land(0, 1, 1);
        CHECKS.due("16: sworn", x.left(1, 0), 0);
        CHECKS.due("17: none is 0", x.best(0), 0);
        int[][] bad = {{-1, 0}, {4, 0}, {0, -1}, {0, 8}};
        for (int[] b : bad) {
            CHECKS.due("16: BAD", x.left(b[0], b[1]), -2);
        }
        CHECKS.due("17: BAD", x.best(-1), -2);
        CHECKS.due("17: BAD", x.best(8), -2);
    }

    private static void unlike() {
        BishopsPeace x = new BishopsPeace();
        CHECKS.due("18: like ones", x.unlike(0, 3), 0);
        CHECKS.due("18: itself", x.unlike(2, 2), 0);
        x.bell(1, 0, 0);
        x.bell(1, 1, 23);
        CHECKS.due("18: earlier and later", x.unlike(0, 1), 11);
        x.bell(0, 0, 23);
        x.bell(0, 1, 0);
        x.lent(15);
        x.feast(1);
        x.land(0, 1, 1);
        CHECKS.due("18: LENT and the like aside", x.unlike(1, 0), 46);
        int[][] bad = {{-1, 0}, {4, 0}, {0, -1}, {0, 4}};
        for (int[] b : bad) {
            CHECKS.due("18: BAD", x.unlike(b[0], b[1]), -2);
        }
    }

    private static void ways() {
        BishopsPeace x = Checks.withRoads("ab4;bd4;ac5;cd3;ad9;ba2;gh1");
        int[][] calls = {{0, 3, 0, 6}, {0, 3, 1, 1}, {3, 0, 0, 6}, {3, 0, 1, 1}, {0, 1, 0, 2}, {0, 1, 1, 1}, {0, 2, 0, 5},
            {1, 2, 0, 7}, {1, 2, 1, 0}, {2, 1, 1, 0}, {6, 7, 0, 1}, {7, 6, 1, 6}, {0, 6, 0, -1}, {0, 6, 1, -1}, {4, 5, 0, -1}};
        for (int[] c : calls) {
            CHECKS.due("19: way(" + c[0] + ", " + c[1] + ", " + c[2] + ")", x.way(c[0], c[1], c[2]), c[3]);
        }
        for (int by = 0; by < 8; by++) {
            int from = (by + 1) % 8;
            int to = (by + 2) % 8;
            String letters = "abcdefgh";
            char middle = letters.charAt(by);
            BishopsPeace two = Checks.withRoads("" + letters.charAt(from) + middle + "4;" + middle + letters.charAt(to) + 5);
            CHECKS.due("19: by land " + by, two.way(from, to, 0), 9);
            CHECKS.due("19: by land " + by, two.way(to, from, 1), by);
        }
        BishopsPeace like = Checks.withRoads("ah1;hb2;ag2;gb1;ac2;cb1;ab3");
        CHECKS.due("19: of like ways the least", like.way(0, 1, 1), 1);
        CHECKS.due("19: of like ways the least", like.way(1, 0, 1), 0);
        like.wipe();
        Checks.typeAll(like, "ah1;hb2;ag2;gb1;ac2;cb1;ab4");
        CHECKS.due("19: of like ways the least", like.way(0, 1, 1), 2);
        BishopsPeace chain = Checks.withRoads("ab9;bc9;cd9;de9;ef9;fg9;gh9");
        CHECKS.due("19: the longest", chain.way(0, 7, 0), 63);
        CHECKS.due("19: the longest", chain.way(7, 0, 1), 6);
        int[][] bad = {{0, 0, 0}, {7, 7, 1}, {-1, 0, 0}, {8, 0, 0}, {0, -1, 0}, {0, 8, 0}, {0, 1, -1}, {0, 1, 2}, {MIN, MAX, 0}};
        for (int[] b : bad) {
            CHECKS.due("19: BAD", x.way(b[0], b[1], b[2]), -2);
        }
    }

    public static void main(String[] args) {
        wars();
        strikes();
        nextHours();
        weeks();
        unlike();
        ways();
        CHECKS.end();
    }
}
