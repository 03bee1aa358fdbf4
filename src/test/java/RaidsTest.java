/** Promises 20 to 23: raids and sieges. */
public final class RaidsTest {
    private static final Checks CHECKS = new Checks("RaidsTest");

    private static void plainRaids() {
        BishopsPeace x = Checks.withRoads("ab3");
        CHECKS.due("20: come in the first hour of war", x.raid(0, 1, 2, 0), 3);
        CHECKS.due("20: from one on", x.raid(0, 1, 2, 10), 10);
        CHECKS.due("20: strikes to the last hour of war, 64 and 65", x.raid(0, 1, 2, 61), 61);
        CHECKS.due("20: one later is a week later", x.raid(0, 1, 2, 62), 171);
        CHECKS.due("20: nine hours", x.raid(0, 1, 9, 54), 54);
        CHECKS.due("20: nine hours", x.raid(0, 1, 9, 55), 171);
        CHECKS.due("20: the last one", x.raid(0, 1, 1, 566), 566);
        CHECKS.due("20: no more", x.raid(0, 1, 1, 567), -1);
        CHECKS.due("20: no way", x.raid(0, 2, 1, 0), -1);
        x.land(0, 1, 1);
        CHECKS.due("20: at home there need be no war", x.raid(0, 1, 2, 0), 3);
        CHECKS.due("20: but where they strike", x.raid(1, 0, 2, 0), -1);
    }

    private static void landsBetween() {
        BishopsPeace x = Checks.withRoads("ab2;bc3");
        CHECKS.due("20: war in b when they come to it", x.raid(0, 2, 1, 0), 4);
        x.land(1, 0, 1);
        x.bell(1, 0, 23);
        CHECKS.due("20: b has a bell of its own", x.raid(0, 2, 1, 0), 21);
        x.bell(1, 0, 6);
        x.bell(1, 1, 8);
        // Set out at s they come to b at s + 2, to c at s + 5, and back to b at s + 9 (b's peace begins in hour 56).
        CHECKS.due("20: back through b, too", x.raid(0, 2, 1, 46), 46);
        CHECKS.due("20: b's peace has begun", x.raid(0, 2, 1, 47), 172);
        x.land(1, 1, 1);
        CHECKS.due("20: b is sworn", x.raid(0, 2, 1, 0), -1);
    }

    private static void otherLandsBack() {
        // Two ways of like hours: a takes the one by b and g, h the one by f and c.
        BishopsPeace x = Checks.withRoads("ab1;ac1;bg1;cf1;gh1;fh1");
        CHECKS.due("20: there by b", x.way(0, 7, 1), 1);
        CHECKS.due("20: back by f", x.way(7, 0, 1), 5);
        CHECKS.due("20: war everywhere", x.raid(0, 7, 1, 0), 5);
        x.land(2, 1, 1);
        CHECKS.due("20: c lies on the way back alone", x.raid(0, 7, 1, 0), -1);
        x.land(2, 1, 0);
        x.land(1, 1, 1);
        CHECKS.due("20: b lies on the way there alone", x.raid(0, 7, 1, 0), -1);
        CHECKS.due("20: from h there by f and c, back by b", x.raid(7, 0, 1, 0), -1);
    }

    private static void lastHour() {
        // WAR ends by HOUR 574 at the latest, so no raid is ever back behind HOUR 671.
        BishopsPeace x = Checks.withRoads("ab9;bc9;cd9;de9;ef9;fg9;gh9");
        CHECKS.due("20: 63 hours there", x.raid(0, 7, 1, 0), -1);
        x.bell(0, 0, 0);
        x.bell(0, 1, 23);
        CHECKS.due("20: 7 roads there and back need 109 hours of war", x.raid(0, 7, 1, 0), -1);
        CHECKS.due("20: 27 hours there", x.raid(0, 3, 9, 0), 0);
        CHECKS.due("20: the last one", x.raid(0, 3, 9, 504 + 16), 504 + 16);
        CHECKS.due("20: none behind it", x.raid(0, 3, 9, 504 + 17), -1);
    }

    private static void badRaids() {
        BishopsPeace x = Checks.withRoads("ab3");
        int[][] bad = {{0, 0, 1, 0}, {-1, 0, 1, 0}, {8, 0, 1, 0}, {0, -1, 1, 0}, {0, 8, 1, 0}, {0, 1, 0, 0}, {0, 1, 10, 0},
            {0, 1, 1, -1}, {0, 1, 1, 672}, {0, 1, Integer.MAX_VALUE, 0}, {0, 1, 1, Integer.MAX_VALUE}, {2, 2, 1, 0}};
        for (int[] b : bad) {
            CHECKS.due("20: BAD", x.raid(b[0], b[1], b[2], b[3]), -2);
        }
    }

    private static void settings() {
        BishopsPeace x = new BishopsPeace();
        CHECKS.due("21: set(0, 99)", x.set(0, 99), 5);
        CHECKS.due("21: set(1, 98)", x.set(1, 98), 2);
        CHECKS.due("37: BREAKS", x.count(6), 99);
        CHECKS.due("37: MENDS", x.count(7), 98);
        int[][] bad = {{-1, 0}, {2, 0}, {0, -1}, {0, 100}, {1, -1}, {1, 100}};
        for (int[] b : bad) {
            CHECKS.due("21: BAD", x.set(b[0], b[1]), -2);
        }
        CHECKS.due("21: set(0, 0)", x.set(0, 0), 99);
        CHECKS.due("21: set(1, 0)", x.set(1, 0), 98);
    }

    private static void sieges() {
        BishopsPeace x = new BishopsPeace();
        CHECKS.due("22: one stone", x.siege(0, 6, 1, 0), 6);
        CHECKS.due("22: none left", x.siege(0, 6, 1, 1), 0);
        CHECKS.due("22: peace brings none above the first", x.siege(0, 0, 10, 0), 7);
        CHECKS.due("22: 300 stones are 60 hours", x.siege(0, 6, 300, 0), 65);
        // 1 is left behind HOUR 65, 108 HOURS of peace bring 216: 217 stones are 44 HOURS from 174 on.
        CHECKS.due("22: 301 are more than a week's", x.siege(0, 6, 301, 0), 217);
        CHECKS.due("22: behind the last war", x.siege(0, 570, 7, 0), -1);
        CHECKS.due("22: all are left", x.siege(0, 570, 7, 1), 7);
        // 999, 699, 915, 615, 831, 531, 747, 447, and 102 HOURS of peace by 2.
        CHECKS.due("22: mended to HOUR 671, no further", x.siege(0, 6, 999, 1), 651);
        x.set(1, 0);
        CHECKS.due("22: nothing is mended", x.siege(0, 6, 301, 0), 174);
        x.set(1, 1);
        CHECKS.due("22: 1 and 108 are mended: 22 hours more", x.siege(0, 6, 301, 0), 174 + 21);
        x.set(1, 99);
        CHECKS.due("22: all is mended", x.siege(0, 6, 301, 0), -1);
        CHECKS.due("22: mended to as many as at first", x.siege(0, 6, 301, 1), 301);
        x.set(0, 0);
        CHECKS.due("22: nothing breaks", x.siege(0, 6, 1, 0), -1);
        CHECKS.due("22: nothing breaks", x.siege(0, 6, 1, 1), 1);
        x.set(0, 99);
        CHECKS.due("22: more than there are", x.siege(0, 6, 50, 1), 0);
        x.set(0, 1);
        x.set(1, 0);
        CHECKS.due("22: 999 less 240", x.siege(0, 0, 999, 1), 759);
        int[][] bad = {{-1, 0, 1, 0}, {8, 0, 1, 0}, {0, -1, 1, 0}, {0, 672, 1, 0}, {0, 0, 0, 0}, {0, 0, 1000, 0},
            {0, 0, 1, -1}, {0, 0, 1, 2}};
        for (int[] b : bad) {
            CHECKS.due("22: BAD", x.siege(b[0], b[1], b[2], b[3]), -2);
        }
    }

    private static void holding() {
        BishopsPeace x = new BishopsPeace();
        CHECKS.due("23: fewer stones than a week takes", x.holds(0, 0, 300), -1);
        CHECKS.due("23: one more", x.holds(0, 0, 301), 3);
        CHECKS.due("23: all four weeks need no mending", x.holds(0, 570, 1), 0);
        CHECKS.due("23: 999 stones", x.holds(0, 0, 999), 1);
        x.lent(14);
        CHECKS.due("23: one week alone", x.holds(0, 0, 301), 0);
        CHECKS.due("23: one week alone", x.holds(0, 0, 300), -1);
        x.lent(0);
        x.set(0, 0);
        CHECKS.due("23: nothing breaks", x.holds(0, 0, 1), 0);
        x.set(0, 99);
        x.feast(1);
        x.feast(2);
        // 18 hours of MONDAY's: 1782; by 999 stones none holds.
        CHECKS.due("23: too much", x.holds(0, 0, 999), -1);
        CHECKS.due("37: MENDS are as they were", x.count(7), 2);
        int[][] bad = {{-1, 0, 1}, {8, 0, 1}, {0, -1, 1}, {0, 672, 1}, {0, 0, 0}, {0, 0, 1000}};
        for (int[] b : bad) {
            CHECKS.due("23: BAD", x.holds(b[0], b[1], b[2]), -2);
        }
    }

    // HOLDS is the least MENDS: the siege by it never ends, by one less it does.
    private static void holdingAndSieges() {
        for (int breaks = 1; breaks < 20; breaks++) {
            BishopsPeace x = new BishopsPeace();
            x.set(0, breaks);
            int stones = Math.min(999, 61 * breaks);
            int least = x.holds(0, 6, stones);
            x.set(1, Math.max(0, least));
            CHECKS.holds("23: it holds by " + least, least == -1 || x.siege(0, 6, stones, 0) == -1);
            x.set(1, Math.max(0, least - 1));
            CHECKS.holds("23: it falls by less than " + least, least <= 0 || x.siege(0, 6, stones, 0) >= 0);
        }
    }

    public static void main(String[] args) {
        plainRaids();
        landsBetween();
        otherLandsBack();
        lastHour();
        badRaids();
        settings();
        sieges();
        holding();
        holdingAndSieges();
        CHECKS.end();
    }
}
