/** Promise 38: the digest, told anew from the other calls. */
public final class DigestTest {
    private static final Checks CHECKS = new Checks("DigestTest");

    private long h;

    private void mix(long... answers) {
        for (long answer : answers) {
            h = 31 * h + answer;
        }
    }

    private long told(BishopsPeace x) {
        h = 17;
        for (int what = 0; what <= 7; what++) {
            mix(x.count(what));
        }
        mix(x.fault());
        for (int r = 0; r < x.count(0); r++) {
            mix(x.road(r, 0), x.road(r, 1), x.road(r, 2));
        }
        for (int it = 0; it < 8; it++) {
            mix(x.left(0, it), x.left(2, it), x.best(it), x.next(50, it, 0), x.next(50, it, 1));
            mix(x.siege(it, 7, 99, 0), x.siege(it, 7, 99, 1), x.holds(it, 7, 99), x.season(7, it));
        }
        for (int it = 1; it < 8; it++) {
            mix(x.way(0, it, 0), x.way(0, it, 1), x.raid(0, it, 2, 0));
            mix(x.home(it, 0, 30, -4), x.home(it, 0, 30, -3), x.home(it, 0, 30, -2), x.home(it, 0, 30, 1));
        }
        for (int one = 0; one < 4; one++) {
            for (int other = 0; other < 4; other++) {
                mix(x.strikes(30, 0, one, other));
            }
        }
        mix(x.unlike(0, 1), x.unlike(0, 2), x.unlike(0, 3));
        mix(x.agree(0), x.agree(1), x.agree(2), x.middle(0), x.middle(1), x.middle(2), x.which());
        return h;
    }

    // To tell it takes some two hundred calls, and an object answers 512: so each is told once, of an object of its own.
    private static void digestIsTold(String why, BishopsPeace x) {
        long due = new DigestTest().told(x);
        CHECKS.due("38: " + why, x.digest(), due);
        CHECKS.due("38: once more, " + why, x.digest(), due);
    }

    private static BishopsPeace withFewHours(int breaks, int mondaysBell) {
        BishopsPeace x = Checks.withRoads("ab1;bc1");
        x.feast(1);
        x.feast(2);
        x.lent(14);
        x.set(0, breaks);
        x.set(1, 0);
        x.bell(0, 0, mondaysBell);
        return x;
    }

    // States in which each number that the digest's calls are given tells: 11 or 17 HOURS of war in all, or one a WEEK.
    private static void fewHours() {
        BishopsPeace sworn = Checks.withRoads("ab1;bc1");
        sworn.land(1, 1, 1);
        digestIsTold("land 1 is sworn", sworn);
        digestIsTold("17 hours of war from HOUR 7 on", withFewHours(6, 6));
        digestIsTold("stones are left", withFewHours(1, 6));
        digestIsTold("11 hours of war", withFewHours(9, 13));
        digestIsTold("one hour of war", withFewHours(9, 23));
    }

    // 49 HOURS of war from HOUR 7 on, one more from 6 on: 2 times 49 are one less than 99 STONES.
    private static void holdsFromHour7() {
        BishopsPeace x = new BishopsPeace();
        x.bell(0, 1, 8);
        x.lent(14);
        x.set(0, 2);
        CHECKS.due("38: 99 STONES hold from HOUR 7 on", x.holds(0, 7, 99), 0);
        CHECKS.due("38: 98 do not", x.holds(0, 7, 98), -1);
        CHECKS.due("38: nor from HOUR 6 on", x.holds(0, 6, 99), -1);
        digestIsTold("99 STONES hold from HOUR 7 on", x);
    }

    // Two HOURS of war in all: a raid of 2 may be, of 3 not.
    private static void raidsOfTwo() {
        BishopsPeace x = Checks.withRoads("ab1");
        x.bell(0, 0, 22);
        x.feast(1);
        x.feast(2);
        x.lent(14);
        CHECKS.due("38: a raid of 2", x.raid(0, 1, 2, 0), 21);
        CHECKS.due("38: a raid of 3", x.raid(0, 1, 3, 0), -1);
        digestIsTold("raids of 2", x);
    }

    // From HOUR 30 on d is 18 HOURS from b: WEDNESDAY's first HOUR, in which by its BELL at 0 (1) there is peace (war).
    private static void homeFromHour30() {
        for (int bell = 0; bell <= 1; bell++) {
            BishopsPeace x = Checks.withRoads("ab1;bc9;cd9;de1;ea1");
            x.bell(0, 1, bell);
            x.land(2, 2, 0);
            x.land(1, 2, 8);
            CHECKS.due("38: by c in peace, by e in war", x.home(3, 0, 30, 1), bell == 0 ? 2 : 4);
            CHECKS.due("38: the other hour", x.home(3, 0, bell == 0 ? 29 : 31, 1), bell == 0 ? 4 : 2);
            digestIsTold("home from HOUR 30 on", x);
        }
    }

    private static BishopsPeace withBellsAndLands() {
        BishopsPeace x = Checks.withRoads("ab1;bc2;ch3;hg4;ad9;de2");
        x.bell(1, 0, 3);
        x.bell(2, 1, 5);
        x.bell(3, 0, 22);
        x.land(1, 0, 1);
        x.land(2, 0, 2);
        x.land(3, 0, 3);
        x.land(4, 1, 1);
        x.land(1, 2, 9);
        return x;
    }

    private static BishopsPeace withAll() {
        BishopsPeace x = withBellsAndLands();
        x.feast(2);
        x.feast(15);
        x.lent(2);
        x.set(0, 3);
        x.set(1, 1);
        x.seen(7, 1, 1);
        x.seen(9, 2, 0);
        return x;
    }

    private static void moreAndMore() {
        digestIsTold("a new object", new BishopsPeace());
        digestIsTold("with roads", Checks.withRoads("ab1;bc2;ch3;hg4;ad9;de2"));
        digestIsTold("with a FAULT", Checks.withRoads("ab1;bc2;ch3;hg4;ad9;de2;"));
        digestIsTold("with bells and lands", withBellsAndLands());
        digestIsTold("with feasts, LENT, a siege, what was seen", withAll());
    }

    private static void sheetsAside() {
        BishopsPeace x = withAll();
        long before = x.digest();
        x.sheet(0, 0, 5);
        x.lay(0, 1, 0, 5);
        CHECKS.due("38: sheets and findings aside", x.digest(), before);
        CHECKS.due("38: the finding stays", x.count(8), 3);
    }

    public static void main(String[] args) {
        moreAndMore();
        sheetsAside();
        fewHours();
        holdsFromHour7();
        raidsOfTwo();
        homeFromHour30();
        CHECKS.end();
    }
}
