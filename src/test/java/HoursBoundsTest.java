/** Each sentence on HOURS, LANDS, BELLS, FEASTS, LENT, KINDS and WAYS that names a bound (promises 7 to 19). */
public final class HoursBoundsTest {
    private static final Checks CHECKS = new Checks("HoursBoundsTest");

    /** All of MONDAY, TUESDAY, WEDNESDAY but its last HOUR is WAR: HOURS 0 to 70 of a WEEK. */
    private static BishopsPeace mostWar() {
        BishopsPeace x = new BishopsPeace();
        x.bell(0, 0, 0);
        x.bell(0, 1, 23);
        return x;
    }

    // "Each LAND is of a PARISH (0 at first), and SWORN or not (not, at first), with DANGER (0 to 16; 4 at first)."
    private static void landsAtFirst() {
        int[] most = {3, 1, 16};
        int[] first = {0, 0, 4};
        for (int land = 0; land < 8; land++) {
            for (int what = 0; what < 3; what++) {
                BishopsPeace x = new BishopsPeace();
                CHECKS.due("7: at first", x.land(land, what, most[what]), first[what]);
                CHECKS.due("7: one too many", x.land(land, what, most[what] + 1), -2);
                CHECKS.due("7: the most", x.land(land, what, 0), most[what]);
                CHECKS.due("7: one too few", x.land(land, what, -1), -2);
                CHECKS.due("7: the least", x.land(land, what, 0), 0);
            }
        }
    }

    // "PARISHES are 0 to 3, each with two BELLS: MONDAY's (0 to 23; 6 at first), WEDNESDAY's (0 to 23; 18 at first)."
    private static void bellsAtFirst() {
        for (int k = 0; k < 8; k++) {
            BishopsPeace x = new BishopsPeace();
            CHECKS.due("8: at first", x.bell(k / 2, k % 2, 23), k % 2 == 0 ? 6 : 18);
            CHECKS.due("8: one too many", x.bell(k / 2, k % 2, 24), -2);
            CHECKS.due("8: the most", x.bell(k / 2, k % 2, 0), 23);
            CHECKS.due("8: one too few", x.bell(k / 2, k % 2, -1), -2);
            CHECKS.due("8: the least", x.bell(k / 2, k % 2, 0), 0);
        }
    }

    // "from MONDAY's BELL of its PARISH on (that HOUR of the DAY, too) and ahead of WEDNESDAY's (that HOUR no more)":
    // every BELL, in every PARISH and WEEK, the HOUR ahead of it and its own.
    private static void everyBell() {
        for (int bell = 0; bell < 24; bell++) {
            for (int parish = 0; parish < 4; parish++) {
                BishopsPeace x = new BishopsPeace();
                x.land(7 - parish, 0, parish);
                x.bell(parish, 0, bell);
                x.bell(parish, 1, bell);
                for (int week = 0; week < 4; week++) {
                    int monday = 168 * week;
                    String say = "13: bell " + bell + ", week " + week + ": ";
                    CHECKS.due(say + "MONDAY's", x.war(monday + bell, 7 - parish), 1);
                    CHECKS.due(say + "ahead of WEDNESDAY's", x.war(monday + 48 + bell - 1, 7 - parish), 1);
                    CHECKS.due(say + "WEDNESDAY's", x.war(monday + 48 + bell, 7 - parish), 0);
                    if (monday + bell > 0) {
                        CHECKS.due(say + "ahead of MONDAY's", x.war(monday + bell - 1, 7 - parish), 0);
                    }
                }
            }
        }
    }

    // "each from MONDAY (0) to SUNDAY (6)": from WEDNESDAY's BELL to the end of SUNDAY there is PEACE, in every HOUR.
    private static void everyHour() {
        for (int week = 0; week < 4; week++) {
            BishopsPeace x = mostWar();
            for (int h = 0; h < 168; h++) {
                CHECKS.due("13: HOUR " + h + " of WEEK " + week, x.war(168 * week + h, 0), h <= 70 ? 1 : 0);
            }
        }
        CHECKS.due("13: HOUR 671", mostWar().war(671, 0), 0);
        CHECKS.due("13: HOUR 672", mostWar().war(672, 0), -2);
        CHECKS.due("13: HOUR -1", mostWar().war(-1, 0), -2);
    }

    // "its DAY no FEAST": DAYS 0 to 27, from the first HOUR of the DAY to its last, and no other one.
    private static void everyFeast() {
        for (int day = 0; day <= 27; day++) {
            BishopsPeace x = mostWar();
            CHECKS.due("10: a FEAST", x.feast(day), 1);
            for (int h : new int[] {24 * day - 1, 24 * day, 24 * day + 12, 24 * day + 23, 24 * day + 24}) {
                if (h >= 0 && h <= 671) {
                    int due = h / 24 != day && h % 168 <= 70 ? 1 : 0;
                    CHECKS.due("13: FEAST " + day + ", HOUR " + h, x.war(h, 0), due);
                }
            }
            x.back();
            CHECKS.due("11: undone", x.war(24 * day, 0), day % 7 <= 2 ? 1 : 0);
        }
        CHECKS.due("10: DAY 28", new BishopsPeace().feast(28), -2);
        CHECKS.due("10: DAY -1", new BishopsPeace().feast(-1), -2);
    }

    // "FEASTS, 8 at most": all eight hold at once, a ninth is none, back() undoes the last, then NOT.
    private static void eightFeasts() {
        int[] days = {0, 1, 2, 7, 8, 9, 14, 22};
        BishopsPeace x = mostWar();
        for (int k = 0; k < 8; k++) {
            CHECKS.due("10: how many", x.feast(days[k]), k + 1);
        }
        CHECKS.due("10: FULL", x.feast(15), -4);
        CHECKS.due("10: the ninth is no FEAST", x.war(24 * 15, 0), 1);
        CHECKS.due("37: eight", x.count(2), 8);
        for (int left = 8; left >= 0; left--) {
            for (int k = 0; k < 8; k++) {
                CHECKS.due("11: with " + left + ", FEAST " + k, x.war(24 * days[k], 0), k < left ? 0 : 1);
            }
            CHECKS.due("11: back()", x.back(), left == 0 ? -3 : left - 1);
        }
        CHECKS.due("37: none", x.count(2), 0);
        CHECKS.due("11: NOT again", x.back(), -3);
        CHECKS.due("10: room again", x.feast(27), 1);
    }

    // One DAY told eight times is eight FEASTS, and one until the last of them is undone.
    private static void oneDayEightTimes() {
        BishopsPeace x = mostWar();
        for (int k = 1; k <= 8; k++) {
            CHECKS.due("10: the same DAY", x.feast(1), k);
        }
        CHECKS.due("10: FULL", x.feast(1), -4);
        for (int left = 7; left >= 0; left--) {
            CHECKS.due("11: still a FEAST", x.war(24, 0), 0);
            CHECKS.due("11: left", x.back(), left);
        }
        CHECKS.due("11: none", x.war(24, 0), 1);
    }

    // "LENT (WEEKS as bits; none at first)", "lent (0 to 15): what it was": every row of bits, each WEEK's ends.
    private static void everyLent() {
        CHECKS.due("12: none at first", new BishopsPeace().lent(0), 0);
        for (int weeks = 0; weeks <= 15; weeks++) {
            BishopsPeace x = mostWar();
            CHECKS.due("12: none at first", x.lent(weeks), 0);
            for (int week = 0; week < 4; week++) {
                int due = 1 - (weeks >> week & 1);
                CHECKS.due("12: LENT " + weeks + ", the first HOUR of " + week, x.war(168 * week, 0), due);
                CHECKS.due("12: LENT " + weeks + ", the last of WAR in " + week, x.war(168 * week + 70, 0), due);
                CHECKS.due("16: LENT " + weeks + ", WEEK " + week, x.left(week, 0), 71 * due);
            }
            CHECKS.due("12: what it was", x.lent(15 - weeks), weeks);
        }
        CHECKS.due("12: 16", new BishopsPeace().lent(16), -2);
        CHECKS.due("12: -1", new BishopsPeace().lent(-1), -2);
    }

    // "the LAND not SWORN": that LAND alone, as long as it is; count() 4 from none to all.
    private static void swornLands() {
        BishopsPeace x = new BishopsPeace();
        CHECKS.due("37: none SWORN", x.count(4), 0);
        for (int sworn = 0; sworn < 8; sworn++) {
            x.land(sworn, 1, 1);
            CHECKS.due("37: SWORN", x.count(4), sworn + 1);
            for (int land = 0; land < 8; land++) {
                CHECKS.due("13: SWORN to " + sworn + ", LAND " + land, x.war(30, land), land <= sworn ? 0 : 1);
            }
        }
        x.land(0, 1, 0);
        CHECKS.due("13: no more", x.war(30, 0), 1);
        CHECKS.due("37: seven", x.count(4), 7);
    }

    // "2 HALF SWORN: they strike on TUESDAYS alone": its first and its last HOUR, in every WEEK.
    private static void tuesdays() {
        for (int week = 0; week < 4; week++) {
            int[] hours = {0, 23, 24, 47, 48, 70};
            int[] due = {0, 0, 1, 1, 0, 0};
            for (int k = 0; k < hours.length; k++) {
                BishopsPeace x = mostWar();
                int hour = 168 * week + hours[k];
                CHECKS.due("14: HALF SWORN in " + hour, x.strikes(hour, 0, 2, 0), due[k]);
                CHECKS.due("14: any in " + hour, x.strikes(hour, 0, 0, 2), 1);
                x.feast(hour / 24);
                CHECKS.due("14: HALF SWORN, no WAR", x.strikes(hour, 0, 2, 0), 0);
                CHECKS.due("14: any, no WAR", x.strikes(hour, 0, 0, 2), 0);
            }
        }
    }

    // "1 SWORN men: they strike nobody, but may be struck", "3 PRIESTS ...: they strike nobody, nobody strikes them".
    private static void everyKind() {
        int[][] onTuesday = {{1, 1, 1, 0}, {0, 0, 0, 0}, {1, 1, 1, 0}, {0, 0, 0, 0}};
        for (int one = 0; one < 4; one++) {
            for (int other = 0; other < 4; other++) {
                BishopsPeace x = new BishopsPeace();
                CHECKS.due("14: TUESDAY " + one + other, x.strikes(30, 7, one, other), onTuesday[one][other]);
                CHECKS.due("14: MONDAY " + one + other, x.strikes(6, 7, one, other), one == 2 ? 0 : onTuesday[one][other]);
                CHECKS.due("14: PEACE " + one + other, x.strikes(5, 7, one, other), 0);
                CHECKS.due("14: HOUR 671 " + one + other, x.strikes(671, 7, one, other), 0);
            }
        }
    }

    // "the next HOUR from one on (that one, too) in which it is so (WAR, or PEACE); NONE".
    private static void nextFromEveryHour() {
        for (int is = 0; is <= 1; is++) {
            for (int from = 0; from <= 671; from++) {
                int due = -1;
                for (int h = 671; h >= from; h--) {
                    due = (h % 168 >= 6 && h % 168 < 66) == (is == 1) ? h : due;
                }
                CHECKS.due("15: next(" + from + ", 7, " + is + ")", new BishopsPeace().next(from, 7, is), due);
            }
        }
        BishopsPeace x = new BishopsPeace();
        x.lent(15);
        CHECKS.due("15: NONE from 0 on", x.next(0, 0, 1), -1);
        CHECKS.due("15: HOUR 671 is PEACE", x.next(671, 0, 0), 671);
    }

    // "HOURS of WAR in a WEEK": from none to 71; with BELLS at 23 and 0 25 are left.
    private static void leftAtLeastAndMost() {
        BishopsPeace x = mostWar();
        for (int week = 0; week < 4; week++) {
            CHECKS.due("16: the most", x.left(week, 7), 71);
        }
        x.bell(0, 0, 23);
        CHECKS.due("16: MONDAY's last HOUR", x.left(0, 0), 48);
        x.bell(0, 1, 0);
        CHECKS.due("16: and TUESDAY alone", x.left(0, 0), 25);
        x.feast(1);
        CHECKS.due("16: one HOUR", x.left(0, 0), 1);
        x.feast(0);
        CHECKS.due("16: none", x.left(0, 0), 0);
        CHECKS.due("16: none, though there is a WEEK more", x.left(1, 0), 25);
    }

    // "BEST WEEK of a LAND: the one with most, of like ones the first".
    private static void everyBest() {
        for (int weeks = 0; weeks <= 15; weeks++) {
            BishopsPeace x = new BishopsPeace();
            x.lent(weeks);
            int due = weeks == 15 ? 0 : Integer.numberOfTrailingZeros(~weeks);
            CHECKS.due("17: the first that is no LENT of " + weeks, x.best(0), due);
            x.land(0, 1, 1);
            CHECKS.due("17: all like, with none", x.best(0), 0);
        }
        for (int best = 0; best < 4; best++) {
            BishopsPeace x = new BishopsPeace();
            for (int week = 0; week < 4; week++) {
                x.feast(7 * week + (week == best ? 3 : 1));
            }
            CHECKS.due("17: the one with most", x.best(7), best);
        }
    }

    // "UNLIKE: in how many HOURS of a WEEK": none, one, 46; LENT, FEASTS, SWORN LANDS aside.
    private static void unlikeAtLeastAndMost() {
        BishopsPeace x = new BishopsPeace();
        for (int a = 0; a < 4; a++) {
            for (int b = 0; b < 4; b++) {
                CHECKS.due("18: none", x.unlike(a, b), 0);
            }
        }
        x.bell(3, 0, 5);
        CHECKS.due("18: one earlier", x.unlike(0, 3), 1);
        x.bell(3, 0, 7);
        CHECKS.due("18: one later", x.unlike(3, 0), 1);
        x.bell(3, 1, 17);
        CHECKS.due("18: one at both ends", x.unlike(0, 3), 2);
        x.bell(0, 0, 0);
        x.bell(0, 1, 23);
        x.bell(3, 0, 23);
        x.bell(3, 1, 0);
        x.lent(15);
        x.feast(0);
        x.land(0, 1, 1);
        CHECKS.due("18: the most", x.unlike(0, 3), 46);
        CHECKS.due("18: the other way", x.unlike(3, 0), 46);
        CHECKS.due("18: itself", x.unlike(3, 3), 0);
    }

    // "WAY: how many HOURS at least; the next LAND on it (of like ways the least); NONE."
    private static void ways() {
        CHECKS.due("19: no ROADS", new BishopsPeace().way(0, 7, 0), -1);
        CHECKS.due("19: no ROADS", new BishopsPeace().way(0, 7, 1), -1);
        BishopsPeace longest = Checks.withRoads("ah9;hb9;bg9;gc9;cf9;fd9;de9");
        CHECKS.due("19: seven ROADS of nine", longest.way(0, 4, 0), 63);
        CHECKS.due("19: back", longest.way(4, 0, 0), 63);
        CHECKS.due("19: the next LAND", longest.way(0, 4, 1), 7);
        CHECKS.due("19: the next LAND back", longest.way(4, 0, 1), 3);
        BishopsPeace apart = Checks.withRoads("ab1;bc1;ca1;ef1;fg1;ge1");
        for (int from = 0; from < 8; from++) {
            for (int to = 0; to < 8; to++) {
                boolean joined = from != to && from % 4 < 3 && to % 4 < 3 && from / 4 == to / 4;
                CHECKS.due("19: " + from + to, apart.way(from, to, 0), from == to ? -2 : joined ? 1 : -1);
                CHECKS.due("19: " + from + to, apart.way(from, to, 1), from == to ? -2 : joined ? to : -1);
            }
        }
        BishopsPeace like = Checks.withRoads("ah1;hb1;ac1;cb1;ab2");
        CHECKS.due("19: of like ways the least", like.way(0, 1, 1), 1);
        CHECKS.due("19: and back", like.way(1, 0, 1), 0);
        BishopsPeace between = Checks.withRoads("ha1;ab1;hc1;cb1;hd1;db1");
        CHECKS.due("19: of three like ways the least", between.way(7, 1, 1), 0);
        CHECKS.due("19: of three, back", between.way(1, 7, 1), 0);
    }

    // Ways of two ROADS by every LAND, 0 and 7 too, between every two others.
    private static void waysByEveryLand() {
        for (int by = 0; by < 8; by++) {
            for (int from = 0; from < 8; from++) {
                int to = (from + 3) % 8;
                if (from != by && to != by) {
                    String roads = "" + (char) ('a' + from) + (char) ('a' + by) + "9;" + (char) ('a' + to) + (char) ('a' + by) + 8;
                    BishopsPeace x = Checks.withRoads(roads);
                    CHECKS.due("19: HOURS by " + by, x.way(from, to, 0), 17);
                    CHECKS.due("19: next is " + by, x.way(from, to, 1), by);
                    CHECKS.due("19: HOURS back", x.way(to, from, 0), 17);
                    CHECKS.due("19: next back", x.way(to, from, 1), by);
                }
            }
        }
    }

    // "read ...: its items, two for each, as long as each may be, eight at most: how many": 0 to 9 items, a stop at each.
    private static void readItems() {
        for (int items = 0; items <= 9; items++) {
            for (int stop = 0; stop <= items; stop++) {
                for (int wrong : new int[] {-1, 24}) {
                    readOnce(items, stop, wrong);
                }
            }
        }
    }

    private static void readOnce(int items, int stop, int wrong) {
        BishopsPeace x = new BishopsPeace();
        x.sheet(1, 0, items);
        for (int i = 0; i < items; i++) {
            x.lay(1, 0, i, i == stop ? wrong : i % 2 == 0 ? 0 : 23);
        }
        int due = Math.min(8, Math.min(stop, items));
        String say = "9: " + items + " items, " + wrong + " at " + stop;
        CHECKS.due(say, x.read(1), due);
        for (int k = 0; k < 8; k++) {
            int bell = k % 2 == 0 ? (k < due ? 0 : 6) : k < due ? 23 : 18;
            CHECKS.due(say + ": bell " + k, x.bell(k / 2, k % 2, 1), bell);
        }
        CHECKS.due(say + ": the SHEET stays", x.lose(1), items);
    }

    // Shorts and ints whose lowest bits alone would be BELLS are none.
    private static void readWideItems() {
        int[][] wide = {{1, 256}, {1, -256}, {2, 65536}, {2, 1 << 8}, {2, Integer.MIN_VALUE}, {2, Integer.MAX_VALUE}};
        for (int[] w : wide) {
            BishopsPeace x = new BishopsPeace();
            x.sheet(0, w[0], 2);
            x.lay(0, w[0], 1, w[1]);
            CHECKS.due("9: " + w[1] + " is no BELL", x.read(0), 1);
            CHECKS.due("9: MONDAY's is read", x.bell(0, 0, 0), 0);
            CHECKS.due("9: WEDNESDAY's stays", x.bell(0, 1, 0), 18);
        }
    }

    public static void main(String[] args) {
        landsAtFirst();
        bellsAtFirst();
        everyBell();
        everyHour();
        everyFeast();
        eightFeasts();
        oneDayEightTimes();
        everyLent();
        swornLands();
        tuesdays();
        everyKind();
        nextFromEveryHour();
        leftAtLeastAndMost();
        everyBest();
        unlikeAtLeastAndMost();
        ways();
        waysByEveryLand();
        readItems();
        readWideItems();
        CHECKS.end();
    }
}
