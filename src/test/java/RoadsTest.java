/** Promises 1 to 12: roads, lands, bells, feasts, LENT. */
public final class RoadsTest {
    private static final Checks CHECKS = new Checks("RoadsTest");

    private static void newObject() {
        BishopsPeace x = new BishopsPeace();
        int[] counts = {0, 0, 0, 0, 0, 0, 5, 2, 0};
        for (int what = 0; what < counts.length; what++) {
            CHECKS.due("1: count(" + what + ")", x.count(what), counts[what]);
        }
        CHECKS.due("1: fault()", x.fault(), -1);
        for (int s = 0; s < 4; s++) {
            CHECKS.due("1: lose(" + s + ")", x.lose(s), -11);
        }
        for (int land = 0; land < 8; land++) {
            CHECKS.due("1: parish", x.land(land, 0, 1), 0);
            CHECKS.due("1: sworn", x.land(land, 1, 1), 0);
            CHECKS.due("1: danger", x.land(land, 2, 1), 4);
        }
        for (int parish = 0; parish < 4; parish++) {
            CHECKS.due("1: MONDAY's bell", x.bell(parish, 0, 1), 6);
            CHECKS.due("1: WEDNESDAY's bell", x.bell(parish, 1, 1), 18);
        }
        CHECKS.due("1: lent", x.lent(0), 0);
    }

    private static void typing() {
        BishopsPeace x = new BishopsPeace();
        CHECKS.due("2: type(0)", x.type(0), 1);
        CHECKS.due("2: type(255)", x.type(255), 2);
        for (int b : new int[] {-1, 256, Integer.MIN_VALUE, Integer.MAX_VALUE}) {
            CHECKS.due("2: type(" + b + ")", x.type(b), -2);
        }
        CHECKS.due("2: count(1)", x.count(1), 2);
        for (int k = 3; k <= 47; k++) {
            CHECKS.due("2: byte " + k, x.type('a'), k);
        }
        CHECKS.due("2: a byte too many", x.type('a'), -4);
        CHECKS.due("2: BAD is ahead of FULL", x.type(256), -2);
        CHECKS.due("4: undo()", x.undo(), 46);
        CHECKS.due("2: room again", x.type('a'), 47);
        CHECKS.due("3: wipe()", x.wipe(), 47);
        CHECKS.due("3: wipe() of none", x.wipe(), 0);
        CHECKS.due("4: undo() of none", x.undo(), -3);
        CHECKS.due("5: fault() of none", x.fault(), -1);
    }

    private static void faults() {
        String[] texts = {"", "a", "ab", "ab1", "ab1;", "ab1;h", "ab1;ha9", "aa", "aa1", "ia1", "Ab1", "ab0", "ab:",
            "abc", "ab12", "ab1 ", "ab1;;", ";", "1", "ab1;cc1", "ab1;cdx", "ab1;cd2;ba3", "`a1", "ai1", "ab9;hg9", "ab1;cd2,"};
        int[] due = {-1, 1, 2, -1, 4, 5, -1, 1, 1, 0, 0, 2, 2, 2, 3, 3, 4, 0, 0, 5, 6, -1, 0, 1, -1, 7};
        for (int k = 0; k < texts.length; k++) {
            BishopsPeace x = Checks.withRoads(texts[k]);
            CHECKS.due("5: fault() of \"" + texts[k] + "\"", x.fault(), due[k]);
            int roads = due[k] == -1 ? (texts[k].length() + 1) / 4 : 0;
            CHECKS.due("37: roads of \"" + texts[k] + "\"", x.count(0), roads);
            CHECKS.due("37: bytes of \"" + texts[k] + "\"", x.count(1), texts[k].length());
        }
        BishopsPeace high = new BishopsPeace();
        high.type('a' + 128);
        CHECKS.due("5: a byte above 127", high.fault(), 0);
    }

    private static void twelveRoads() {
        BishopsPeace x = Checks.withRoads("ab1;bc2;cd3;de4;ef5;fg6;gh7;ha8;ac9;bd1;ce2;df3");
        CHECKS.due("5: twelve", x.fault(), -1);
        CHECKS.due("37: twelve", x.count(0), 12);
        CHECKS.due("37: hours", x.count(5), 51);
        CHECKS.due("2: no place for a ;", x.type(';'), -4);
        CHECKS.due("6: road(11, 2)", x.road(11, 2), 3);
        x.undo();
        CHECKS.due("5: not ended", x.fault(), 46);
        CHECKS.due("37: none with a FAULT", x.count(0), 0);
        CHECKS.due("37: no hours with a FAULT", x.count(5), 0);
        CHECKS.due("6: none with a FAULT", x.road(0, 0), -2);
        CHECKS.due("19: no way with a FAULT", x.way(0, 1, 0), -1);
    }

    private static void roads() {
        BishopsPeace x = Checks.withRoads("hb7;ca9");
        int[][] due = {{7, 1, 7}, {2, 0, 9}};
        for (int r = 0; r < 2; r++) {
            for (int what = 0; what < 3; what++) {
                CHECKS.due("6: road(" + r + ", " + what + ")", x.road(r, what), due[r][what]);
            }
        }
        int[][] bad = {{2, 0}, {-1, 0}, {0, 3}, {0, -1}, {Integer.MAX_VALUE, 0}, {Integer.MIN_VALUE, 0}, {0, Integer.MIN_VALUE}};
        for (int[] b : bad) {
            CHECKS.due("6: road(" + b[0] + ", " + b[1] + ")", x.road(b[0], b[1]), -2);
        }
    }

    private static void lands() {
        BishopsPeace x = new BishopsPeace();
        int[] most = {3, 1, 16};
        int[] first = {0, 0, 4};
        for (int what = 0; what < 3; what++) {
            CHECKS.due("7: the most", x.land(7, what, most[what]), first[what]);
            CHECKS.due("7: too much", x.land(7, what, most[what] + 1), -2);
            CHECKS.due("7: too little", x.land(7, what, -1), -2);
            CHECKS.due("7: what it was", x.land(7, what, 0), most[what]);
            CHECKS.due("7: another land is as at first", x.land(6, what, 0), first[what]);
        }
        int[][] bad = {{8, 0, 0}, {-1, 0, 0}, {0, 3, 0}, {0, -1, 0}, {0, 3, -1}, {0, Integer.MAX_VALUE, 0}, {Integer.MIN_VALUE, 0, 0}};
        for (int[] b : bad) {
            CHECKS.due("7: land(" + b[0] + ", " + b[1] + ", " + b[2] + ")", x.land(b[0], b[1], b[2]), -2);
        }
        for (int land = 0; land < 8; land++) {
            x.land(land, 1, 1);
            CHECKS.due("37: sworn lands", x.count(4), land + 1);
        }
        x.land(5, 1, 0);
        CHECKS.due("37: sworn lands", x.count(4), 7);
    }

    private static void bells() {
        BishopsPeace x = new BishopsPeace();
        CHECKS.due("8: bell(3, 0, 23)", x.bell(3, 0, 23), 6);
        CHECKS.due("8: bell(3, 1, 0)", x.bell(3, 1, 0), 18);
        CHECKS.due("8: bell(3, 0, 0)", x.bell(3, 0, 0), 23);
        CHECKS.due("8: bell(3, 1, 23)", x.bell(3, 1, 23), 0);
        int[][] bad = {{4, 0, 0}, {-1, 0, 0}, {0, 2, 0}, {0, -1, 0}, {0, 0, 24}, {0, 1, 24}, {0, 0, -1}};
        for (int[] b : bad) {
            CHECKS.due("8: bell(" + b[0] + ", " + b[1] + ", " + b[2] + ")", x.bell(b[0], b[1], b[2]), -2);
        }
        CHECKS.due("8: unchanged", x.bell(0, 0, 6), 6);
        CHECKS.due("8: unchanged", x.bell(0, 1, 18), 18);
    }

    private static BishopsPeace withSheet(int form, int... items) {
        BishopsPeace x = new BishopsPeace();
        x.sheet(2, form, items.length);
        for (int k = 0; k < items.length; k++) {
            x.lay(2, form, k, items[k]);
        }
        return x;
    }

    private static void bellsAre(BishopsPeace x, int... due) {
        for (int k = 0; k < 8; k++) {
            CHECKS.due("9: bell " + k, x.bell(k / 2, k % 2, 0), due[k]);
        }
    }

    private static void reading() {
        BishopsPeace all = withSheet(0, 0, 1, 2, 3, 4, 5, 6, 23, 9, 9);
        CHECKS.due("9: eight at most", all.read(2), 8);
        bellsAre(all, 0, 1, 2, 3, 4, 5, 6, 23);
        BishopsPeace some = withSheet(2, 7, 8, 9);
        CHECKS.due("9: three items", some.read(2), 3);
        bellsAre(some, 7, 8, 9, 18, 6, 18, 6, 18);
        BishopsPeace stopped = withSheet(1, 7, 24, 9);
        CHECKS.due("9: as long as each may be", stopped.read(2), 1);
        bellsAre(stopped, 7, 18, 6, 18, 6, 18, 6, 18);
        CHECKS.due("9: below 0", withSheet(0, -1, 5).read(2), 0);
        CHECKS.due("9: no items", withSheet(0).read(2), 0);
        CHECKS.due("9: BAD", all.read(4), -2);
        CHECKS.due("9: BAD", all.read(-1), -2);
        CHECKS.due("37: no finding yet", all.count(8), 0);
        CHECKS.due("9: NULL", all.read(3), -11);
        CHECKS.due("37: the finding", all.count(8), 1);
    }

    private static void feasts() {
        BishopsPeace x = new BishopsPeace();
        CHECKS.due("11: NOT", x.back(), -3);
        CHECKS.due("10: BAD", x.feast(28), -2);
        CHECKS.due("10: BAD", x.feast(-1), -2);
        CHECKS.due("10: feast(1)", x.feast(1), 1);
        CHECKS.due("10: feast(1) once more", x.feast(1), 2);
        CHECKS.due("11: back()", x.back(), 1);
        CHECKS.due("11: it still is a feast", x.war(30, 0), 0);
        CHECKS.due("11: back()", x.back(), 0);
        CHECKS.due("11: it is none", x.war(30, 0), 1);
        for (int k = 1; k <= 8; k++) {
            CHECKS.due("10: feast", x.feast(28 - k), k);
        }
        CHECKS.due("10: FULL", x.feast(0), -4);
        CHECKS.due("10: BAD ahead of FULL", x.feast(28), -2);
        CHECKS.due("37: feasts", x.count(2), 8);
        CHECKS.due("11: back()", x.back(), 7);
        CHECKS.due("10: the last one is undone", x.war(21 * 24 + 7, 0), 0);
        CHECKS.due("11: room again", x.feast(0), 8);
    }

    private static void lent() {
        BishopsPeace x = new BishopsPeace();
        CHECKS.due("12: lent(5)", x.lent(5), 0);
        CHECKS.due("12: BAD", x.lent(16), -2);
        CHECKS.due("12: BAD", x.lent(-1), -2);
        int[] due = {0, 60, 0, 60};
        for (int week = 0; week < 4; week++) {
            CHECKS.due("12: week " + week, x.left(week, 0), due[week]);
        }
        CHECKS.due("12: lent(15)", x.lent(15), 5);
        CHECKS.due("12: no war", x.next(0, 0, 1), -1);
        CHECKS.due("12: lent(0)", x.lent(0), 15);
    }

    public static void main(String[] args) {
        newObject();
        typing();
        faults();
        twelveRoads();
        roads();
        lands();
        bells();
        reading();
        feasts();
        lent();
        CHECKS.end();
    }
}
