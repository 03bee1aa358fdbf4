/** Each sentence on RAIDS and SIEGES that names a bound (promises 20 to 23). */
public final class WarBoundsTest {
    private static final Checks CHECKS = new Checks("WarBoundsTest");

    // "striking for so many HOURS (1 to 9)", "the first HOUR from one on": there is WAR in b in HOURS 6 to 65 of a WEEK.
    private static void everyStrike() {
        for (int strike = 1; strike <= 9; strike++) {
            BishopsPeace x = Checks.withRoads("ab1");
            String say = "20: strike " + strike + ": ";
            CHECKS.due(say + "they come in the first HOUR of WAR", x.raid(0, 1, strike, 0), 5);
            CHECKS.due(say + "that HOUR, too", x.raid(0, 1, strike, 5), 5);
            CHECKS.due(say + "the HOUR behind it", x.raid(0, 1, strike, 6), 6);
            CHECKS.due(say + "the last HOUR of WAR is struck in", x.raid(0, 1, strike, 65 - strike), 65 - strike);
            CHECKS.due(say + "one later is a WEEK later", x.raid(0, 1, strike, 66 - strike), 173);
            CHECKS.due(say + "the last of all", x.raid(0, 1, strike, 569 - strike), 569 - strike);
            CHECKS.due(say + "none behind it", x.raid(0, 1, strike, 570 - strike), -1);
            CHECKS.due(say + "HOUR 671", x.raid(0, 1, strike, 671), -1);
        }
        CHECKS.due("20: strike 0", Checks.withRoads("ab1").raid(0, 1, 0, 0), -2);
        CHECKS.due("20: strike 10", Checks.withRoads("ab1").raid(0, 1, 10, 0), -2);
    }

    // They may set out in HOUR 0, and in the WEEK ahead of the one in which they come.
    private static void firstHours() {
        BishopsPeace x = Checks.withRoads("ab1");
        x.bell(0, 0, 0);
        CHECKS.due("20: HOUR 0", x.raid(0, 1, 1, 0), 0);
        CHECKS.due("20: SUNDAY's last HOUR", x.raid(0, 1, 1, 66), 167);
        CHECKS.due("20: the last WEEK", x.raid(0, 1, 1, 503), 503);
        BishopsPeace far = Checks.withRoads("ab9");
        far.bell(0, 0, 0);
        CHECKS.due("20: nine HOURS ahead", far.raid(0, 1, 1, 60), 159);
    }

    // "there is WAR in each LAND on the way in the HOUR in which it is come to, there and back":
    // b is come to at s + 1 and at s + 4, c at s + 2; b has BELLS of its own.
    private static void comeTo() {
        for (int bell = 8; bell < 24; bell++) {
            BishopsPeace x = Checks.withRoads("ab1;bc1");
            x.land(1, 0, 1);
            x.bell(1, 0, bell);
            CHECKS.due("20: come to b at its MONDAY's BELL " + bell, x.raid(0, 2, 1, 0), bell - 1);
            CHECKS.due("20: and later", x.raid(0, 2, 1, bell), bell);
        }
        for (int bell = 0; bell < 18; bell++) {
            BishopsPeace x = Checks.withRoads("ab1;bc1");
            x.land(1, 0, 1);
            x.bell(1, 1, bell);
            int last = 48 + bell - 5;
            CHECKS.due("20: back in b ahead of its WEDNESDAY's BELL " + bell, x.raid(0, 2, 1, last), last);
            CHECKS.due("20: back in b in that HOUR", x.raid(0, 2, 1, last + 1), 173);
        }
    }

    // "(at home, in the end, there need not be)", and each other LAND on the way needs WAR.
    private static void everyLandOnTheWay() {
        for (int sworn = 0; sworn < 8; sworn++) {
            BishopsPeace x = Checks.withRoads("ab1;bc1;cd1;de1;ef1;fg1;gh1");
            x.land(sworn, 1, 1);
            CHECKS.due("20: SWORN is " + sworn, x.raid(0, 7, 1, 0), sworn == 0 ? 5 : -1);
            CHECKS.due("20: SWORN is " + sworn + ", back", x.raid(7, 0, 1, 0), sworn == 7 ? 5 : -1);
            CHECKS.due("20: SWORN is " + sworn + ", to d", x.raid(0, 3, 1, 0), sworn == 0 || sworn > 3 ? 5 : -1);
        }
        BishopsPeace x = Checks.withRoads("ab9");
        x.land(0, 0, 1);
        x.bell(1, 1, 0);
        CHECKS.due("20: home in PEACE", x.raid(0, 1, 9, 48), 48);
    }

    // All HOURS from the first LAND that is come to, to the last one, lie in one WEEK's 71: 43 there, 2 of striking, 43 back,
    // less 9 at both ends, are just so many.
    private static void longestRaid() {
        BishopsPeace x = Checks.withRoads("ab9;bc9;cd9;de9;ef7");
        x.bell(0, 0, 0);
        x.bell(0, 1, 23);
        CHECKS.due("20: WAY", x.way(0, 5, 0), 43);
        CHECKS.due("20: come in MONDAY's first HOUR", x.raid(0, 5, 2, 0), 159);
        CHECKS.due("20: that HOUR, too", x.raid(0, 5, 2, 159), 159);
        CHECKS.due("20: a WEEK later", x.raid(0, 5, 2, 160), 327);
        CHECKS.due("20: the last", x.raid(0, 5, 2, 495), 495);
        CHECKS.due("20: none behind it", x.raid(0, 5, 2, 496), -1);
        CHECKS.due("20: one HOUR more", x.raid(0, 5, 3, 0), -1);
        x.bell(0, 1, 22);
        CHECKS.due("20: one HOUR of WAR less", x.raid(0, 5, 2, 0), -1);
    }

    // "NONE: no such HOUR": no way, LENT, no WAR where they strike.
    private static void noRaid() {
        CHECKS.due("20: no ROADS", new BishopsPeace().raid(0, 1, 1, 0), -1);
        BishopsPeace x = Checks.withRoads("ab1");
        CHECKS.due("20: no way", x.raid(0, 2, 1, 0), -1);
        x.lent(15);
        CHECKS.due("20: LENT", x.raid(0, 1, 1, 0), -1);
        x.lent(7);
        CHECKS.due("20: the last WEEK", x.raid(0, 1, 1, 0), 504 + 5);
        x.land(1, 1, 1);
        CHECKS.due("20: SWORN", x.raid(0, 1, 1, 0), -1);
    }

    // "BREAKS (what = 0; 5 at first), MENDS (1; 2 at first): what they were", each 0 to 99.
    private static void setAtFirst() {
        int[] first = {5, 2};
        for (int what = 0; what <= 1; what++) {
            BishopsPeace x = new BishopsPeace();
            CHECKS.due("21: at first", x.set(what, 99), first[what]);
            CHECKS.due("21: one too many", x.set(what, 100), -2);
            CHECKS.due("21: the most", x.set(what, 0), 99);
            CHECKS.due("21: one too few", x.set(what, -1), -2);
            CHECKS.due("21: the least", x.set(what, 1), 0);
            CHECKS.due("37: " + what, x.count(6 + what), 1);
            CHECKS.due("37: the other", x.count(7 - what), first[1 - what]);
        }
    }

    private static void siegeIs(String why, BishopsPeace x, int[] call, int hour, int left) {
        CHECKS.due("22: " + why, x.siege(call[0], call[1], call[2], 0), hour);
        CHECKS.due("22: " + why + ", left", x.siege(call[0], call[1], call[2], 1), left);
    }

    private static int[] call(int land, int hour, int stones) {
        return new int[] {land, hour, stones};
    }

    // "STONES (1 to 999)", "the first HOUR behind which none is left": just none, and one more.
    private static void fewAndManyStones() {
        BishopsPeace x = new BishopsPeace();
        siegeIs("one", x, call(0, 6, 1), 6, 0);
        siegeIs("five: none is left", x, call(0, 6, 5), 6, 0);
        siegeIs("six: one is left", x, call(0, 6, 6), 7, 0);
        siegeIs("the HOUR itself is PEACE", x, call(0, 5, 5), 6, 0);
        siegeIs("60 HOURS take 300", x, call(7, 0, 300), 65, 0);
        x.set(1, 0);
        siegeIs("301: one is left to the next WEEK", x, call(7, 0, 301), 174, 0);
        x.set(0, 99);
        siegeIs("99", x, call(0, 6, 99), 6, 0);
        siegeIs("100", x, call(0, 6, 100), 7, 0);
        siegeIs("999: eleven HOURS", x, call(0, 6, 999), 16, 0);
        CHECKS.due("22: 0", x.siege(0, 6, 0, 0), -2);
        CHECKS.due("22: 1000", x.siege(0, 6, 1000, 0), -2);
        CHECKS.due("23: 0", x.holds(0, 6, 0), -2);
        CHECKS.due("23: 1000", x.holds(0, 6, 1000), -2);
    }

    // "how many are left behind HOUR 671 (or that HOUR: 0)": 240 HOURS of WAR in all, the last is 569, then 102 of PEACE.
    private static void toHour671() {
        BishopsPeace x = new BishopsPeace();
        x.set(0, 1);
        x.set(1, 0);
        siegeIs("240 fall in the last HOUR of WAR", x, call(0, 0, 240), 569, 0);
        siegeIs("241 do not", x, call(0, 0, 241), -1, 1);
        siegeIs("999", x, call(0, 0, 999), -1, 759);
        siegeIs("the last HOUR of WAR", x, call(0, 569, 1), 569, 0);
        siegeIs("the HOUR behind it", x, call(0, 570, 1), -1, 1);
        siegeIs("HOUR 671", x, call(0, 671, 1), -1, 1);
        siegeIs("HOUR 671", x, call(0, 671, 999), -1, 999);
        x.set(0, 5);
        x.set(1, 1);
        siegeIs("the last WEEK, 300 less and 102 more", x, call(0, 510, 999), -1, 999 - 300 + 102);
        CHECKS.due("22: HOUR 672", x.siege(0, 672, 1, 0), -2);
        CHECKS.due("23: HOUR 672", x.holds(0, 672, 1), -2);
    }

    // "each HOUR of PEACE brings MENDS, to as many as at first".
    private static void mendedToTheFirst() {
        BishopsPeace x = new BishopsPeace();
        x.set(0, 1);
        x.set(1, 99);
        siegeIs("PEACE ahead of WAR brings none", x, call(0, 0, 60), 65, 0);
        siegeIs("61 are mended to 61, each WEEK anew", x, call(0, 0, 61), -1, 61);
        x.set(1, 1);
        siegeIs("by one an HOUR: 108 HOURS of PEACE are enough for 60", x, call(0, 0, 61), -1, 61);
        x.set(0, 2);
        siegeIs("not enough for 120: 121, 1, 109 less 54 HOURS of 2", x, call(0, 0, 121), 174 + 54, 0);
        x.set(1, 0);
        siegeIs("nothing mends: 120 and 1", x, call(0, 0, 121), 174, 0);
    }

    // BREAKS 0: nothing falls, not in WAR, not the least castle.
    private static void nothingBreaks() {
        BishopsPeace x = new BishopsPeace();
        x.set(0, 0);
        siegeIs("one STONE", x, call(0, 6, 1), -1, 1);
        siegeIs("all STONES", x, call(0, 0, 999), -1, 999);
        CHECKS.due("23: one STONE", x.holds(0, 0, 1), 0);
    }

    // "HOLDS: the least MENDS (0 to 99) by which it holds to HOUR 671; NONE." The shortest PEACE between WARS is a FEAST on
    // TUESDAY, of 24 HOURS; 991 STONES less 11 times 90 leave 1, and need 990 more by then: 42 an HOUR, the most there can be.
    private static void leastMends() {
        BishopsPeace x = new BishopsPeace();
        x.bell(0, 0, 13);
        x.bell(0, 1, 11);
        x.feast(1);
        x.lent(14);
        x.set(0, 90);
        CHECKS.due("23: 42", x.holds(0, 0, 991), 42);
        CHECKS.due("23: one STONE less falls on MONDAY", x.holds(0, 0, 990), -1);
        CHECKS.due("23: from TUESDAY on none are needed", x.holds(0, 24, 991), 0);
        CHECKS.due("23: MENDS stay", x.count(7), 2);
        x.set(1, 42);
        siegeIs("by 42", x, call(0, 0, 991), -1, 991);
        x.set(1, 41);
        siegeIs("by 41", x, call(0, 0, 991), 48 + 10, 0);
    }

    // None needed, one needed, as many as the PEACE of a WEEK must bring.
    private static void holdsByFew() {
        BishopsPeace x = new BishopsPeace();
        CHECKS.due("23: 300 fall within a WEEK", x.holds(0, 0, 300), -1);
        CHECKS.due("23: 301 need 300 in 108 HOURS", x.holds(0, 0, 301), 3);
        x.set(0, 1);
        CHECKS.due("23: 240 fall in the end", x.holds(0, 0, 240), 1);
        CHECKS.due("23: 241 do not", x.holds(0, 0, 241), 0);
        CHECKS.due("23: HOUR 671", x.holds(0, 671, 1), 0);
        CHECKS.due("23: the last HOUR of WAR", x.holds(0, 569, 1), -1);
        CHECKS.due("23: two STONES", x.holds(0, 569, 2), 0);
    }

    public static void main(String[] args) {
        everyStrike();
        firstHours();
        comeTo();
        everyLandOnTheWay();
        longestRaid();
        noRaid();
        setAtFirst();
        fewAndManyStones();
        toHour671();
        mendedToTheFirst();
        nothingBreaks();
        leastMends();
        holdsByFew();
        CHECKS.end();
    }
}
