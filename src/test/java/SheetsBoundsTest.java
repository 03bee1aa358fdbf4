import java.math.BigInteger;
import java.util.ArrayList;
import java.util.List;

/** Each sentence on what was SEEN, SEASONS, SHEETS and the digest that names a bound (promises 27 to 38). */
public final class SheetsBoundsTest {
    private static final Checks CHECKS = new Checks("SheetsBoundsTest");
    private static final int MIN = Integer.MIN_VALUE, MAX = Integer.MAX_VALUE;
    private static final int ALL_DAYS = (1 << 28) - 1, MONDAYS = 1 | 1 << 7 | 1 << 14 | 1 << 21;

    // "SEEN, 6 at most", "seen ...: how many. BAD; FULL": the seventh is not held.
    private static void sixSeen() {
        BishopsPeace x = new BishopsPeace();
        for (int k = 1; k <= 6; k++) {
            CHECKS.due("27: how many", x.seen(5, 0, 0), k);
            CHECKS.due("37: SEEN", x.count(3), k);
        }
        int before = x.which();
        CHECKS.due("27: FULL", x.seen(6, 0, 1), -4);
        CHECKS.due("29: the seventh is not held", x.which(), before);
        CHECKS.due("28: all are forgotten", x.forget(), 6);
        CHECKS.due("28: none is left to forget", x.forget(), 0);
        CHECKS.due("27: room again", x.seen(6, 0, 1), 1);
        CHECKS.due("29: the old ones do not hold", x.which(), 7 * MONDAYS);
    }

    // Each of the six is asked of every DAY: the one that differs, in each place.
    private static void eachOfSix() {
        for (int odd = 0; odd < 6; odd++) {
            BishopsPeace x = new BishopsPeace();
            for (int k = 0; k < 6; k++) {
                x.seen(k == odd ? 5 : 23, 7, k == odd ? 0 : 1);
            }
            CHECKS.due("29: MONDAYS by the one in place " + odd, x.which(), MONDAYS);
        }
    }

    // "in a LAND": each of them, by one that alone is SWORN.
    private static void everyLandSeen() {
        for (int land = 0; land < 8; land++) {
            BishopsPeace x = new BishopsPeace();
            x.land(land, 1, 1);
            x.seen(12, land, 0);
            CHECKS.due("29: PEACE in " + land + " on all DAYS", x.which(), ALL_DAYS);
            x.seen(12, (land + 1) % 8, 1);
            CHECKS.due("29: WAR in another one", x.which(), 7 * MONDAYS);
            x.seen(12, land, 1);
            CHECKS.due("29: WAR in " + land + " on none", x.which(), 0);
        }
    }

    // "in an HOUR of it (0 to 23) there was WAR in a LAND (1), or none (0)": every HOUR, in both ways.
    private static void everyHourSeen() {
        for (int hour = 0; hour < 24; hour++) {
            BishopsPeace x = new BishopsPeace();
            CHECKS.due("27: seen(" + hour + ", 7, 1)", x.seen(hour, 7, 1), 1);
            int war = (hour >= 6 ? MONDAYS : 0) | MONDAYS << 1 | (hour < 18 ? MONDAYS << 2 : 0);
            CHECKS.due("29: WAR in " + hour, x.which(), war);
            x.forget();
            x.seen(hour, 0, 0);
            CHECKS.due("29: PEACE in " + hour, x.which(), ALL_DAYS & ~war);
        }
        CHECKS.due("27: HOUR 24", new BishopsPeace().seen(24, 0, 0), -2);
        CHECKS.due("27: HOUR -1", new BishopsPeace().seen(-1, 0, 0), -2);
    }

    // "WHICH: DAYS ..., as bits": all of them if nothing was SEEN, none, each one alone (DAY 27, too, in PEACE).
    private static void whichDays() {
        CHECKS.due("29: all", new BishopsPeace().which(), ALL_DAYS);
        BishopsPeace x = new BishopsPeace();
        x.seen(12, 0, 1);
        x.seen(12, 0, 0);
        CHECKS.due("29: none", x.which(), 0);
        for (int day = 0; day < 28; day++) {
            BishopsPeace feast = new BishopsPeace();
            feast.feast(day);
            feast.seen(12, 0, 0);
            int due = ALL_DAYS & ~(7 * MONDAYS) | 1 << day;
            CHECKS.due("29: PEACE, FEAST " + day, feast.which(), due);
        }
        BishopsPeace lent = new BishopsPeace();
        lent.seen(12, 0, 1);
        lent.lent(7);
        CHECKS.due("29: the last WEEK", lent.which(), 7 << 21);
        lent.lent(14);
        CHECKS.due("29: the first WEEK", lent.which(), 7);
    }

    /** The DAY of a WEEK by the WEEK's LOT, by numbers that do not wrap. */
    private static int lot(int seed, int week) {
        BigInteger ints = BigInteger.ONE.shiftLeft(32);
        BigInteger now = BigInteger.valueOf(seed).mod(ints);
        for (int w = 0; w <= week; w++) {
            now = now.multiply(BigInteger.valueOf(1103515245)).add(BigInteger.valueOf(12345)).mod(ints);
        }
        return now.shiftRight(16).mod(BigInteger.valueOf(7)).intValue();
    }

    // "LOTS ... as ints that wrap; its upper 16 bits as a number from 0 on, modulo m", "for each WEEK a LOT of 7":
    // each WEEK alone, the others being LENT (a LOT of theirs is drawn all the same).
    private static void lotsThatWrap() {
        int[] seeds = {0, 1, -1, 2, 7, 12345, -12345, 65535, 65536, -65536, 1 << 30, MIN, MIN + 1, MAX, MAX - 1, 0x7fff0000};
        int[] war = {23, 24, 20, 0, 0, 0, 0};
        for (int k = 0; k < 200 + seeds.length; k++) {
            int seed = k < seeds.length ? seeds[k] : 0x9E3779B9 * k;
            for (int week = 0; week < 4; week++) {
                BishopsPeace x = new BishopsPeace();
                x.bell(0, 0, 1);
                x.bell(0, 1, 20);
                x.lent(15 - (1 << week));
                CHECKS.due("30: season(" + seed + ", 7), WEEK " + week, x.season(seed, 7), 67 - war[lot(seed, week)]);
            }
        }
    }

    // "that DAY of it is a FEAST, too": with eight FEASTS already, and no FEAST more when it is told.
    private static void seasonWithEightFeasts() {
        BishopsPeace x = new BishopsPeace();
        int[] days = {0, 1, 7, 8, 14, 15, 21, 22};
        for (int day : days) {
            x.feast(day);
        }
        for (int seed = 0; seed < 30; seed++) {
            int due = 0;
            for (int week = 0; week < 4; week++) {
                due += lot(seed, week) == 2 ? 0 : 18;
            }
            CHECKS.due("30: WEDNESDAYS alone, seed " + seed, x.season(seed, 0), due);
        }
        CHECKS.due("37: eight", x.count(2), 8);
        CHECKS.due("13: WAR as before", x.war(48, 0), 1);
        CHECKS.due("30: SWORN", States.make("full").season(1, 0), 0);
    }

    // "a row of a FORM ... of 0 to 60 items (0 at first)": none, one, all, in every SHEET and FORM.
    private static void sizes() {
        for (int s = 0; s < 4; s++) {
            for (int form = 0; form < 3; form++) {
                for (int n : new int[] {0, 1, 59, 60}) {
                    BishopsPeace x = new BishopsPeace();
                    CHECKS.due("31: n", x.sheet(s, form, n), n);
                    for (int i = 0; i < n; i++) {
                        CHECKS.due("31: 0 at first", x.get(s, form, i), 0);
                    }
                    CHECKS.due("34: behind the last", x.get(s, form, n), MIN);
                    CHECKS.due("37: INDEX", x.count(8), 2);
                    CHECKS.due("33: behind the last", x.lay(s, form, n, 1), -12);
                    CHECKS.due("33: the last", x.lay(s, form, n - 1, 1), n == 0 ? -12 : 1);
                    CHECKS.due("32: how many it had", x.lose(s), n);
                    CHECKS.due("32: LOST", x.lose(s), -11);
                }
            }
        }
        CHECKS.due("31: 61", new BishopsPeace().sheet(0, 0, 61), -2);
        CHECKS.due("31: -1", new BishopsPeace().sheet(0, 0, -1), -15);
    }

    // "A SHEET is a new row": nothing of the old one is left, be it shorter, longer, LOST in between, or of another FORM.
    private static void newRows() {
        for (int n : new int[] {3, 60}) {
            BishopsPeace x = new BishopsPeace();
            x.sheet(2, 2, 60);
            for (int i = 0; i < 60; i++) {
                x.lay(2, 2, i, MAX);
            }
            x.sheet(2, 1, n);
            for (int i = 0; i < n; i++) {
                CHECKS.due("31: new of " + n, x.get(2, 1, i), 0);
            }
            CHECKS.due("33: no more of the old FORM", x.lay(2, 2, 0, 1), -13);
            x.lay(2, 1, 0, 9);
            x.lose(2);
            x.sheet(2, 1, 60);
            for (int i = 0; i < 60; i++) {
                CHECKS.due("31: new behind LOST", x.get(2, 1, i), 0);
            }
        }
    }

    private static long lowestBits(long v, int bits) {
        long low = Math.floorMod(v, 1L << bits);
        return low >= 1L << bits - 1 ? low - (1L << bits) : low;
    }

    // "becomes v (the lowest bits that it has, with its sign)": bytes, shorts, ints, around every end.
    private static void lowestBitsWithSign() {
        int[] bits = {8, 16, 32};
        int[] ends = {0, 1 << 7, 1 << 8, 1 << 15, 1 << 16, MIN, -(1 << 7), -(1 << 8), -(1 << 15), -(1 << 16), 1 << 24};
        for (int form = 0; form < 3; form++) {
            BishopsPeace x = new BishopsPeace();
            x.sheet(3, form, 60);
            for (int end : ends) {
                for (int v = end - 2; v != end + 3; v++) {
                    CHECKS.due("33: lay", x.lay(3, form, 59, v), 1);
                    CHECKS.due("34: " + v + " of FORM " + form, x.get(3, form, 59), lowestBits(v, bits[form]));
                }
            }
            CHECKS.due("34: the item ahead of it", x.get(3, form, 58), 0);
        }
    }

    // The least int laid in a SHEET of ints is no refusal: count() 8 stays.
    private static void leastIntAsAnItem() {
        BishopsPeace x = new BishopsPeace();
        x.sheet(0, 2, 1);
        x.lay(0, 2, 0, MIN);
        CHECKS.due("34: the least int", x.get(0, 2, 0), MIN);
        CHECKS.due("37: no FINDING", x.count(8), 0);
    }

    private static BishopsPeace toCopy(int form) {
        BishopsPeace x = new BishopsPeace();
        x.sheet(0, form, 6);
        x.sheet(3, form, 4);
        for (int i = 0; i < 6; i++) {
            x.lay(0, form, i, 10 + i);
        }
        for (int i = 0; i < 4; i++) {
            x.lay(3, form, i, 20 + i);
        }
        return x;
    }

    private static int old(int s, int i) {
        return (s == 0 ? 10 : 20) + i;
    }

    // "n items of SHEET s, from i on, come to SHEET t (perhaps s, as they were), from j on": every i, j and n that may be,
    // and the first that may not ("INDEX: below 0, not so many (with n 0, too, if i or j is above how many there are)").
    private static void everyCopy() {
        int[] sizes = {6, 0, 0, 4};
        for (int pair = 0; pair < 4; pair++) {
            int s = pair % 2 == 0 ? 0 : 3;
            int t = pair < 2 ? 0 : 3;
            for (int i = -1; i <= 7; i++) {
                for (int j = -1; j <= 7; j++) {
                    for (int n = -1; n <= 7; n++) {
                        boolean may = i >= 0 && j >= 0 && n >= 0 && i + n <= sizes[s] && j + n <= sizes[t];
                        copyOnce(new int[] {s, i, t, j, n}, may, sizes[t]);
                    }
                }
            }
        }
    }

    private static void copyOnce(int[] c, boolean may, int size) {
        int form = Math.floorMod(c[1] + c[3] + c[4], 3);
        BishopsPeace x = toCopy(form);
        String say = "35: " + States.call("copy", c);
        CHECKS.due(say, x.copy(c[0], c[1], c[2], c[3], c[4]), may ? 1 : -12);
        CHECKS.due(say + ", count(8)", x.count(8), may ? 0 : 2);
        for (int k = 0; k < size; k++) {
            boolean isCopied = may && k >= c[3] && k < c[3] + c[4];
            CHECKS.due(say + ", item " + k, x.get(c[2], form, k), isCopied ? old(c[0], c[1] + k - c[3]) : old(c[2], k));
        }
        if (c[0] != c[2]) {
            CHECKS.due(say + ", the source stays", x.get(c[0], form, 0), old(c[0], 0));
        }
    }

    // All sixty; and a SHEET of no items, from 0 to 0.
    private static void copyAllAndNone() {
        BishopsPeace x = new BishopsPeace();
        x.sheet(0, 1, 60);
        x.sheet(1, 1, 60);
        for (int i = 0; i < 60; i++) {
            x.lay(0, 1, i, -i);
        }
        CHECKS.due("35: sixty", x.copy(0, 0, 1, 0, 60), 1);
        for (int i = 0; i < 60; i++) {
            CHECKS.due("35: item " + i, x.get(1, 1, i), -i);
        }
        CHECKS.due("35: none at both ends", x.copy(0, 60, 1, 60, 0), 1);
        CHECKS.due("35: none behind the end", x.copy(0, 61, 1, 60, 0), -12);
        CHECKS.due("35: none behind the other end", x.copy(0, 60, 1, 61, 0), -12);
        x.sheet(2, 1, 0);
        CHECKS.due("35: none of none", x.copy(2, 0, 2, 0, 0), 1);
        CHECKS.due("35: one of none", x.copy(2, 0, 2, 0, 1), -12);
        CHECKS.due("35: none from 1 on", x.copy(2, 1, 2, 0, 0), -12);
        x.sheet(3, 2, 0);
        CHECKS.due("35: unlike FORMS of no items", x.copy(2, 0, 3, 0, 0), -14);
    }

    // "from item 0 on, as many as there are items and HOURS: how many": no items, all, HOURS that end ahead of them.
    private static void writeToTheEnd() {
        for (int form = 0; form < 3; form++) {
            for (int n : new int[] {0, 1, 59, 60}) {
                for (int hour : new int[] {0, 611, 612, 613, 614, 670, 671}) {
                    writeOnce(form, n, hour);
                }
            }
        }
    }

    private static void writeOnce(int form, int n, int hour) {
        BishopsPeace x = new BishopsPeace();
        x.sheet(3, form, n);
        for (int i = 0; i < n; i++) {
            x.lay(3, form, i, 77);
        }
        int due = Math.min(n, 672 - hour);
        String say = "36: " + n + " items from HOUR " + hour;
        CHECKS.due(say, x.write(7, hour, 3), due);
        for (int i = 0; i < n; i++) {
            int h = hour + i;
            int war = h % 168 >= 6 && h % 168 < 66 ? 1 : 0;
            CHECKS.due(say + ", item " + i, x.get(3, form, i), i < due ? war : 77);
        }
        CHECKS.due(say + ", no item more", x.lay(3, form, n, 0), -12);
        CHECKS.due(say + ", the FORM stays", x.lay(3, (form + 1) % 3, 0, 0), -13);
    }

    // "count ... BAD": 0 to 8, of a new object and of a full one.
    private static void counts() {
        int[] first = {0, 0, 0, 0, 0, 0, 5, 2, 0};
        int[] full = {12, 47, 8, 6, 8, 51, 99, 99, 5};
        for (int what = -1; what <= 9; what++) {
            boolean is = what >= 0 && what <= 8;
            CHECKS.due("37: count(" + what + ") of a new object", new BishopsPeace().count(what), is ? first[what] : -2);
            CHECKS.due("37: count(" + what + ") of a full one", States.make("full").count(what), is ? full[what] : -2);
        }
    }

    private static List<Integer> toldInDigest(BishopsPeace x) {
        List<Integer> told = new ArrayList<>();
        for (int what = 0; what <= 7; what++) {
            told.add(x.count(what));
        }
        told.add(x.fault());
        for (int r = 0; r < 3 * x.count(0); r++) {
            told.add(x.road(r / 3, r % 3));
        }
        for (int it = 0; it <= 7; it++) {
            told.addAll(List.of(x.left(0, it), x.left(2, it), x.best(it), x.next(50, it, 0), x.next(50, it, 1)));
            told.addAll(List.of(x.siege(it, 7, 99, 0), x.siege(it, 7, 99, 1), x.holds(it, 7, 99), x.season(7, it)));
        }
        for (int it = 1; it <= 7; it++) {
            told.addAll(List.of(x.way(0, it, 0), x.way(0, it, 1), x.raid(0, it, 2, 0)));
            told.addAll(List.of(x.home(it, 0, 30, -4), x.home(it, 0, 30, -3), x.home(it, 0, 30, -2), x.home(it, 0, 30, 1)));
        }
        for (int pair = 0; pair < 16; pair++) {
            told.add(x.strikes(30, 0, pair / 4, pair % 4));
        }
        told.addAll(List.of(x.unlike(0, 1), x.unlike(0, 2), x.unlike(0, 3)));
        told.addAll(List.of(x.agree(0), x.agree(1), x.agree(2), x.middle(0), x.middle(1), x.middle(2), x.which()));
        return told;
    }

    // "as longs that wrap": the sum without a wrap, then its lowest 64 bits; no ROADS, a FAULT, all ROADS.
    private static void digestThatWraps() {
        for (String state : States.ALL) {
            BigInteger h = BigInteger.valueOf(17);
            for (int answer : toldInDigest(States.make(state))) {
                h = h.multiply(BigInteger.valueOf(31)).add(BigInteger.valueOf(answer));
            }
            CHECKS.holds("38: it does wrap", h.abs().bitLength() > 64);
            CHECKS.due("38: of a " + state + " object", States.make(state).digest(), h.longValue());
        }
    }

    public static void main(String[] args) {
        sixSeen();
        eachOfSix();
        everyLandSeen();
        everyHourSeen();
        whichDays();
        lotsThatWrap();
        seasonWithEightFeasts();
        sizes();
        newRows();
        lowestBitsWithSign();
        leastIntAsAnItem();
        everyCopy();
        copyAllAndNone();
        writeToTheEnd();
        counts();
        digestThatWraps();
        CHECKS.end();
    }
}
