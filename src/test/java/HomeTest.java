/** Promises 24 to 26: the safest way home, parishes that agree. */
public final class HomeTest {
    private static final Checks CHECKS = new Checks("HomeTest");

    /** The answers that are due: above, below, hours, then the lands of the way. */
    private static void homeIs(String why, BishopsPeace x, int[] call, int... due) {
        String say = "24: " + why + ": home(" + call[0] + ", " + call[1] + ", " + call[2] + ", ";
        for (int k = 0; k < 3; k++) {
            CHECKS.due(say + (k - 4) + ")", x.home(call[0], call[1], call[2], k - 4), due[k]);
        }
        for (int i = 0; i < 8; i++) {
            int land = i + 3 < due.length ? due[i + 3] : -1;
            CHECKS.due(say + i + ")", x.home(call[0], call[1], call[2], i), land);
        }
    }

    private static int[] call(int from, int to, int hour) {
        return new int[] {from, to, hour};
    }

    private static void chances() {
        BishopsPeace x = Checks.withRoads("ab1;bc1;cd1");
        homeIs("two lands between, 12 by 16 each", x, call(0, 3, 30), 9, 16, 3, 0, 1, 2, 3);
        homeIs("the first and the last land are safe", x, call(0, 1, 30), 1, 1, 1, 0, 1);
        homeIs("peace", x, call(0, 3, 100), 1, 1, 3, 0, 1, 2, 3);
        homeIs("come to b in peace, to c in war", x, call(0, 3, 4), 3, 4, 3, 0, 1, 2, 3);
        homeIs("come to b in war, to c in peace", x, call(0, 3, 64), 3, 4, 3, 0, 1, 2, 3);
        x.land(1, 2, 1);
        x.land(2, 2, 0);
        homeIs("DANGER 1 and 0", x, call(0, 3, 30), 15, 16, 3, 0, 1, 2, 3);
        x.land(2, 2, 16);
        homeIs("DANGER 16: a way without a chance", x, call(0, 3, 30), 0, 1, 3, 0, 1, 2, 3);
        homeIs("no way", x, call(0, 4, 30), 0, 1, -1);
        x.type(';');
        homeIs("no roads", x, call(0, 3, 30), 0, 1, -1);
    }

    private static void longest() {
        BishopsPeace x = Checks.withRoads("ab1;bc1;cd1;de1;ef1;fg1;gh1");
        for (int land = 0; land < 8; land++) {
            x.land(land, 2, 1);
        }
        homeIs("six lands between", x, call(0, 7, 30), 11390625, 16777216, 7, 0, 1, 2, 3, 4, 5, 6, 7);
        homeIs("the other way", x, call(7, 0, 30), 11390625, 16777216, 7, 7, 6, 5, 4, 3, 2, 1, 0);
        // HOUR 672 would be a MONDAY's first, with war by a bell at 0.
        x.bell(0, 0, 0);
        homeIs("HOUR 672 is peace, too", x, call(0, 2, 671), 1, 1, 2, 0, 1, 2);
        homeIs("HOUR 0 is war", x, call(0, 2, 0), 15, 16, 2, 0, 1, 2);
        BishopsPeace end = Checks.withRoads("ab9;bc9;cd9;de9;ef9;fg9;gh9");
        homeIs("beyond HOUR 671 there is peace", end, call(0, 7, 671), 1, 1, 63, 0, 1, 2, 3, 4, 5, 6, 7);
    }

    private static void choices() {
        BishopsPeace x = Checks.withRoads("ab1;bd1;ac9;cd9");
        x.land(2, 1, 1);
        homeIs("a longer way that is safer", x, call(0, 3, 30), 1, 1, 18, 0, 2, 3);
        x.land(2, 1, 0);
        homeIs("of like chances the shorter one", x, call(0, 3, 30), 3, 4, 2, 0, 1, 3);
        x.land(2, 2, 3);
        homeIs("the greater chance", x, call(0, 3, 30), 13, 16, 18, 0, 2, 3);
        BishopsPeace late = Checks.withRoads("ab1;ab9;bc1");
        homeIs("the longer of two roads comes in peace", late, call(0, 2, 60), 1, 1, 10, 0, 1, 2);
        homeIs("both come in war", late, call(0, 2, 30), 3, 4, 2, 0, 1, 2);
        BishopsPeace like = Checks.withRoads("ah1;hd2;ac2;cd1;ad3");
        homeIs("of like ones the least row", like, call(0, 3, 100), 1, 1, 3, 0, 2, 3);
        homeIs("a way without a land between", like, call(0, 3, 30), 1, 1, 3, 0, 3);
        BishopsPeace direct = Checks.withRoads("ad3;ab1;bd2");
        homeIs("the least row is longer, and found later", direct, call(0, 3, 100), 1, 1, 3, 0, 1, 3);
        BishopsPeace lost = Checks.withRoads("ab1;bd2;ac1;cd1");
        lost.land(1, 2, 16);
        lost.land(2, 2, 16);
        homeIs("no chance either way: the shorter one", lost, call(0, 3, 30), 0, 1, 2, 0, 2, 3);
    }

    private static void detours() {
        // To and fro they would wait until there is peace in b, but no land is come to twice.
        BishopsPeace first = Checks.withRoads("ab1;bc1;ad9");
        homeIs("the first land not twice", first, call(0, 2, 60), 3, 4, 2, 0, 1, 2);
        BishopsPeace later = Checks.withRoads("ad1;db1;bc1;de9");
        later.land(3, 1, 1);
        later.land(4, 1, 1);
        homeIs("a later land not twice", later, call(0, 2, 60), 3, 4, 3, 0, 3, 1, 2);
        BishopsPeace round = Checks.withRoads("ab1;bc1;ad9;db9");
        homeIs("a round way that comes in peace", round, call(0, 2, 60), 1, 1, 19, 0, 3, 1, 2);
        round.bell(0, 1, 23);
        homeIs("d in war, b in peace is no better", round, call(0, 2, 60), 3, 4, 2, 0, 1, 2);
    }

    private static void roadsThatAreGone() {
        BishopsPeace x = Checks.withRoads("ab1;bc1");
        x.type(';');
        homeIs("a FAULT leaves no road", x, call(0, 1, 30), 0, 1, -1);
        x.wipe();
        homeIs("wiped", x, call(0, 1, 30), 0, 1, -1);
        Checks.typeAll(x, "bc1");
        homeIs("fewer roads than before", x, call(0, 1, 30), 0, 1, -1);
        Checks.typeAll(x, ";cd1;de1;ef1;fg1;gh1;bd9;ce9;df9;eg9;fh9;ab1");
        homeIs("twelve roads", x, call(0, 2, 30), 3, 4, 2, 0, 1, 2);
    }

    private static void badHomes() {
        BishopsPeace x = Checks.withRoads("ab1");
        int[][] bad = {{0, 0, 0, 0}, {-1, 0, 0, 0}, {8, 0, 0, 0}, {0, -1, 0, 0}, {0, 8, 0, 0}, {0, 1, -1, 0}, {0, 1, 672, 0},
            {0, 1, 0, -5}, {0, 1, 0, -1}, {0, 1, 0, 8}, {0, 1, 0, Integer.MIN_VALUE}, {0, 1, 0, Integer.MAX_VALUE}};
        for (int[] b : bad) {
            CHECKS.due("24: BAD", x.home(b[0], b[1], b[2], b[3]), -2);
        }
    }

    private static BishopsPeace withBells(int... bells) {
        BishopsPeace x = new BishopsPeace();
        for (int k = 0; k < 8; k++) {
            x.bell(k / 2, k % 2, bells[k]);
        }
        return x;
    }

    private static void agreeIs(BishopsPeace x, int... due) {
        for (int what = 0; what < 3; what++) {
            CHECKS.due("25: agree(" + what + ")", x.agree(what), due[what]);
        }
    }

    private static void middleIs(BishopsPeace x, int... due) {
        for (int what = 0; what < 3; what++) {
            CHECKS.due("26: middle(" + what + ")", x.middle(what), due[what]);
        }
    }

    private static void agreeing() {
        agreeIs(new BishopsPeace(), 0, 6, 18);
        agreeIs(withBells(9, 9, 1, 1, 9, 9, 9, 9), 1, 9, 9);
        agreeIs(withBells(9, 9, 1, 1, 9, 9, 1, 1), 2, 1, 1);
        agreeIs(withBells(9, 1, 9, 0, 9, 0, 9, 1), 2, 9, 0);
        agreeIs(withBells(9, 1, 1, 9, 9, 1, 1, 8), 2, 9, 1);
        agreeIs(withBells(5, 0, 4, 23, 4, 22, 6, 6), 3, 4, 22);
        agreeIs(withBells(23, 23, 23, 22, 22, 23, 23, 21), 3, 22, 23);
        agreeIs(withBells(1, 1, 2, 2, 3, 3, 4, 4), 3, 1, 1);
        agreeIs(withBells(2, 2, 1, 1, 3, 3, 4, 4), 3, 1, 1);
        agreeIs(withBells(2, 2, 3, 3, 4, 4, 1, 1), 3, 1, 1);
        agreeIs(withBells(1, 1, 2, 2, 3, 3, 3, 3), 2, 3, 3);
        agreeIs(withBells(9, 9, 9, 9, 1, 1, 2, 2), 2, 9, 9);
        CHECKS.due("25: BAD", new BishopsPeace().agree(3), -2);
        CHECKS.due("25: BAD", new BishopsPeace().agree(-1), -2);
    }

    private static void middles() {
        middleIs(new BishopsPeace(), 0, 6, 18);
        middleIs(withBells(0, 23, 10, 3, 20, 3, 5, 9), 25 + 26, 5, 3);
        middleIs(withBells(0, 0, 0, 0, 23, 23, 23, 23), 92, 0, 0);
        middleIs(withBells(1, 4, 2, 3, 3, 2, 4, 1), 8, 2, 2);
        middleIs(withBells(1, 2, 1, 2, 1, 2, 1, 2), 0, 1, 2);
        middleIs(withBells(23, 0, 23, 0, 23, 0, 0, 23), 46, 23, 0);
        CHECKS.due("26: BAD", new BishopsPeace().middle(3), -2);
        CHECKS.due("26: BAD", new BishopsPeace().middle(-1), -2);
    }

    public static void main(String[] args) {
        chances();
        longest();
        choices();
        detours();
        roadsThatAreGone();
        badHomes();
        agreeing();
        middles();
        CHECKS.end();
    }
}
