/** Promises 31 to 37: sheets, findings, counts. */
public final class SheetsTest {
    private static final Checks CHECKS = new Checks("SheetsTest");
    private static final int MIN = Integer.MIN_VALUE, MAX = Integer.MAX_VALUE;

    private static void itemsAre(String why, BishopsPeace x, int s, int form, int... due) {
        for (int k = 0; k < due.length; k++) {
            CHECKS.due(why + ": item " + k, x.get(s, form, k), due[k]);
        }
        CHECKS.due(why + ": no more", x.get(s, form, due.length), MIN);
    }

    private static void makingAndLosing() {
        BishopsPeace x = new BishopsPeace();
        CHECKS.due("31: sheet(3, 2, 60)", x.sheet(3, 2, 60), 60);
        CHECKS.due("31: 0 at first", x.get(3, 2, 59), 0);
        x.lay(3, 2, 59, 8);
        int[][] bad = {{-1, 0, 1}, {4, 0, 1}, {0, -1, 1}, {0, 3, 1}, {0, 0, 61}, {0, 0, MAX}, {4, 0, -1}, {0, 3, -1}};
        for (int[] b : bad) {
            CHECKS.due("31: BAD", x.sheet(b[0], b[1], b[2]), -2);
        }
        CHECKS.due("37: BAD is no finding", x.count(8), 0);
        CHECKS.due("31: SIZE", x.sheet(3, 0, -1), -15);
        CHECKS.due("31: SIZE", x.sheet(3, 0, MIN), -15);
        CHECKS.due("37: SIZE", x.count(8), 5);
        CHECKS.due("31: the old one stands", x.get(3, 2, 59), 8);
        CHECKS.due("31: anew", x.sheet(3, 2, 60), 60);
        CHECKS.due("31: 0 again", x.get(3, 2, 59), 0);
        CHECKS.due("37: the finding stays", x.count(8), 5);
        CHECKS.due("31: no items", x.sheet(2, 1, 0), 0);
        CHECKS.due("32: lose(2)", x.lose(2), 0);
        CHECKS.due("32: lose(3)", x.lose(3), 60);
        CHECKS.due("32: NULL", x.lose(3), -11);
        CHECKS.due("37: NULL", x.count(8), 1);
        CHECKS.due("32: BAD", x.lose(4), -2);
        CHECKS.due("32: BAD", x.lose(-1), -2);
        x.sheet(3, 0, 2);
        itemsAre("31: behind a longer one", x, 3, 0, 0, 0);
    }

    private static void laying() {
        BishopsPeace x = new BishopsPeace();
        int[] values = {0, 1, -1, 127, 128, 255, 256, -128, -129, 32767, 32768, 65535, 65536, -32768, -32769, MIN, MAX};
        for (int form = 0; form < 3; form++) {
            x.sheet(1, form, 1);
            for (int v : values) {
                int due = form == 0 ? (byte) v : form == 1 ? (short) v : v;
                CHECKS.due("33: lay(1, " + form + ", 0, " + v + ")", x.lay(1, form, 0, v), 1);
                CHECKS.due("34: get behind lay of " + v, x.get(1, form, 0), due);
            }
        }
        itemsAre("33: the other items stay", layThird(), 0, 1, 0, 0, 5, 0);
    }

    private static BishopsPeace layThird() {
        BishopsPeace x = new BishopsPeace();
        x.sheet(0, 1, 4);
        x.lay(0, 1, 2, 5);
        return x;
    }

    private static void refusedItems() {
        BishopsPeace x = new BishopsPeace();
        x.sheet(0, 1, 4);
        // SHEET, FORM, item; what lay answers; what count() 8 is then (0: as before).
        int[][] calls = {{-1, 1, 0, -2, 0}, {4, 1, 0, -2, 0}, {0, -1, 0, -2, 0}, {0, 3, 0, -2, 0}, {1, 3, 0, -2, 0},
            {1, 1, 0, -11, 1}, {0, 0, 0, -13, 3}, {0, 2, 9, -13, 3}, {0, 1, 4, -12, 2}, {0, 1, -1, -12, 2},
            {0, 1, MAX, -12, 2}, {0, 1, MIN, -12, 2}, {1, 0, -1, -11, 1}};
        for (int[] c : calls) {
            String args = "(" + c[0] + ", " + c[1] + ", " + c[2] + ")";
            x.sheet(3, 0, -1);
            int finding = c[4] == 0 ? 5 : c[4];
            CHECKS.due("33: lay" + args, x.lay(c[0], c[1], c[2], 9), c[3]);
            CHECKS.due("37: count(8) behind lay" + args, x.count(8), finding);
            x.sheet(3, 0, -1);
            CHECKS.due("34: get" + args, x.get(c[0], c[1], c[2]), MIN);
            CHECKS.due("37: count(8) behind get" + args, x.count(8), finding);
        }
        itemsAre("33: refusals change nothing", x, 0, 1, 0, 0, 0, 0);
    }

    private static BishopsPeace toCopy() {
        BishopsPeace x = new BishopsPeace();
        x.sheet(0, 2, 5);
        for (int k = 0; k < 5; k++) {
            x.lay(0, 2, k, 10 + k);
        }
        x.sheet(1, 2, 3);
        x.sheet(2, 1, 5);
        return x;
    }

    private static void copying() {
        BishopsPeace x = toCopy();
        CHECKS.due("35: to another", x.copy(0, 3, 1, 1, 2), 1);
        itemsAre("35: to another", x, 1, 2, 0, 13, 14);
        CHECKS.due("35: to itself, forth", x.copy(0, 0, 0, 1, 4), 1);
        itemsAre("35: to itself, forth", x, 0, 2, 10, 10, 11, 12, 13);
        BishopsPeace y = toCopy();
        CHECKS.due("35: to itself, back", y.copy(0, 1, 0, 0, 4), 1);
        itemsAre("35: to itself, back", y, 0, 2, 11, 12, 13, 14, 14);
        CHECKS.due("35: none, at the ends", y.copy(0, 5, 1, 3, 0), 1);
        CHECKS.due("35: all", y.copy(1, 0, 0, 2, 3), 1);
        itemsAre("35: all", y, 0, 2, 11, 12, 0, 0, 0);
    }

    private static void refusedCopies() {
        int[][] calls = {{-1, 0, 0, 0, 0, -2}, {4, 0, 0, 0, 0, -2}, {0, 0, -1, 0, 0, -2}, {0, 0, 4, 0, 0, -2},
            {3, 0, 4, 0, 0, -2}, {3, 0, 0, 0, 0, -11}, {0, 0, 3, 0, 0, -11}, {3, -1, 2, 0, 0, -11}, {0, 0, 2, 0, 1, -14},
            {0, -1, 2, 0, 1, -14}, {0, 0, 2, 0, 0, -14}, {0, -1, 1, 0, 1, -12}, {0, 0, 1, -1, 1, -12}, {0, 0, 1, 0, -1, -12},
            {0, 0, 1, 0, 4, -12}, {0, 4, 1, 0, 2, -12}, {0, 0, 1, 2, 2, -12}, {0, 6, 1, 0, 0, -12}, {0, 0, 1, 4, 0, -12},
            {0, 1, 0, 0, MAX, -12}, {0, MAX, 0, 0, 1, -12}, {0, MAX, 0, MAX, MAX, -12}, {0, 0, 0, MIN, MIN, -12}};
        for (int[] c : calls) {
            BishopsPeace x = toCopy();
            CHECKS.due("35: refused", x.copy(c[0], c[1], c[2], c[3], c[4]), c[5]);
            CHECKS.due("37: count(8)", x.count(8), c[5] == -2 ? 0 : -10 - c[5]);
            itemsAre("35: refused, unchanged", x, 0, 2, 10, 11, 12, 13, 14);
            itemsAre("35: refused, unchanged", x, 1, 2, 0, 0, 0);
        }
    }

    private static void writing() {
        BishopsPeace x = new BishopsPeace();
        for (int form = 0; form < 3; form++) {
            x.sheet(0, form, 4);
            CHECKS.due("36: write(0, 4, 0)", x.write(0, 4, 0), 4);
            itemsAre("36: write(0, 4, 0)", x, 0, form, 0, 0, 1, 1);
            CHECKS.due("36: over them", x.write(0, 63, 0), 4);
            itemsAre("36: over them", x, 0, form, 1, 1, 1, 0);
        }
        x.lay(0, 2, 1, 77);
        CHECKS.due("36: as many as there are hours", x.write(0, 671, 0), 1);
        itemsAre("36: the other items stay", x, 0, 2, 0, 77, 1, 0);
        x.sheet(1, 0, 60);
        CHECKS.due("36: sixty", x.write(7, 612, 1), 60);
        CHECKS.due("36: 59", x.write(7, 613, 1), 59);
        x.sheet(1, 0, 0);
        CHECKS.due("36: no items", x.write(7, 612, 1), 0);
        int[][] bad = {{-1, 0, 0}, {8, 0, 0}, {0, -1, 0}, {0, 672, 0}, {0, 0, -1}, {0, 0, 4}, {8, 0, 3}};
        for (int[] b : bad) {
            x.sheet(2, 0, -1);
            CHECKS.due("36: BAD", x.write(b[0], b[1], b[2]), -2);
            CHECKS.due("37: no finding", x.count(8), 5);
        }
        CHECKS.due("36: NULL", x.write(0, 0, 3), -11);
        CHECKS.due("37: NULL", x.count(8), 1);
    }

    private static void counting() {
        BishopsPeace x = Checks.withRoads("ab9;cd8");
        x.feast(3);
        x.seen(0, 0, 0);
        x.seen(0, 0, 0);
        x.land(2, 1, 1);
        x.set(0, 33);
        x.set(1, 44);
        x.sheet(0, 0, -1);
        int[] due = {2, 7, 1, 2, 1, 17, 33, 44, 5};
        for (int what = 0; what < due.length; what++) {
            CHECKS.due("37: count(" + what + ")", x.count(what), due[what]);
        }
        for (int what : new int[] {-1, 9, MIN, MAX}) {
            CHECKS.due("37: count(" + what + ")", x.count(what), -2);
        }
    }

    public static void main(String[] args) {
        makingAndLosing();
        laying();
        refusedItems();
        copying();
        refusedCopies();
        writing();
        counting();
        CHECKS.end();
    }
}
