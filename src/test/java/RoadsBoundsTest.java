/** Each sentence on ROADS and the FAULT that names a bound (promises 1 to 6, 37), by its own words. */
public final class RoadsBoundsTest {
    private static final Checks CHECKS = new Checks("RoadsBoundsTest");
    private static final String LETTERS = "abcdefgh", FIGURES = "123456789";

    // "ROADS are a text of up to 47 bytes", "type: a byte (0 to 255) ... how many. BAD; FULL."
    private static void upTo47Bytes() {
        for (int b : new int[] {0, 'a', 255}) {
            BishopsPeace x = new BishopsPeace();
            for (int k = 1; k <= 47; k++) {
                CHECKS.due("2: byte " + k, x.type(b), k);
                CHECKS.due("37: bytes", x.count(1), k);
            }
            CHECKS.due("2: the 48th", x.type(b), -4);
            CHECKS.due("2: still 47", x.count(1), 47);
            CHECKS.due("4: one less", x.undo(), 46);
            CHECKS.due("2: the 47th again", x.type(b), 47);
            CHECKS.due("2: the 48th again", x.type(b), -4);
        }
    }

    // "A byte (0 to 255)": each of them is taken, those around are BAD.
    private static void everyByte() {
        for (int b = -2; b <= 257; b++) {
            CHECKS.due("2: type(" + b + ")", new BishopsPeace().type(b), b >= 0 && b <= 255 ? 1 : -2);
        }
    }

    // "wipe: ROADS are empty: how many bytes they had": of none, of one, of all.
    private static void wiping() {
        for (int bytes : new int[] {0, 1, 46, 47}) {
            BishopsPeace x = new BishopsPeace();
            for (int k = 0; k < bytes; k++) {
                x.type('z');
            }
            CHECKS.due("3: wipe()", x.wipe(), bytes);
            CHECKS.due("3: empty", x.count(1), 0);
            CHECKS.due("3: an empty text is well", x.fault(), -1);
            CHECKS.due("3: wipe() once more", x.wipe(), 0);
            CHECKS.due("3: from the first byte on", x.type('a'), 1);
        }
    }

    // "undo: the last byte is undone: how many are left. NOT: there is none."
    private static void undoing() {
        BishopsPeace x = Checks.withRoads(States.TWELVE);
        for (int left = 46; left >= 0; left--) {
            CHECKS.due("4: left", x.undo(), left);
            CHECKS.due("4: the FAULT of what is left", x.fault(), left == 0 || left % 4 == 3 ? -1 : left);
            CHECKS.due("4: the ROADS that are left", x.count(0), left % 4 == 3 ? (left + 1) / 4 : 0);
        }
        CHECKS.due("4: NOT", x.undo(), -3);
        CHECKS.due("4: NOT again", x.undo(), -3);
        CHECKS.due("4: from the first byte on", x.type('a'), 1);
        CHECKS.due("4: there is one", x.undo(), 0);
    }

    // "12 at most (0 on)": none, one, twelve; each is told, behind the last there is none.
    private static void noneToTwelve() {
        for (int number = 0; number <= 12; number++) {
            BishopsPeace x = Checks.withRoads(States.TWELVE.substring(0, Math.max(0, 4 * number - 1)));
            CHECKS.due("37: ROADS", x.count(0), number);
            CHECKS.due("5: well", x.fault(), -1);
            int hours = 0;
            for (int r = 0; r < number; r++) {
                CHECKS.due("6: one LAND of " + r, x.road(r, 0), States.TWELVE.charAt(4 * r) - 'a');
                CHECKS.due("6: the other of " + r, x.road(r, 1), States.TWELVE.charAt(4 * r + 1) - 'a');
                CHECKS.due("6: HOURS of " + r, x.road(r, 2), States.TWELVE.charAt(4 * r + 2) - '0');
                hours += States.TWELVE.charAt(4 * r + 2) - '0';
            }
            CHECKS.due("6: no ROAD " + number, x.road(number, 0), -2);
            CHECKS.due("6: no ROAD -1", x.road(-1, 0), -2);
            CHECKS.due("37: HOURS of all", x.count(5), hours);
        }
    }

    private static boolean goesOn(int place, int b, int first) {
        return switch (place % 4) {
            case 0 -> LETTERS.indexOf(b) >= 0;
            case 1 -> LETTERS.indexOf(b) >= 0 && b != first;
            case 2 -> FIGURES.indexOf(b) >= 0;
            default -> b == ';';
        };
    }

    // "the place of the first byte with which it cannot go on": every byte at every place of twelve ROADS
    // ("two letters a to h (unlike), and a figure (1 to 9)", "with ; between them", "a second letter like the first").
    private static void everyByteAtEveryPlace() {
        for (int place = 0; place < 47; place++) {
            String before = States.TWELVE.substring(0, place);
            for (int b = 0; b <= 255; b++) {
                BishopsPeace x = Checks.withRoads(before);
                x.type(b);
                boolean well = goesOn(place, b, place % 4 == 1 ? before.charAt(place - 1) : -1);
                int due = !well ? place : place % 4 == 2 ? -1 : place + 1;
                CHECKS.due("5: byte " + b + " at " + place, x.fault(), due);
                CHECKS.due("37: ROADS with byte " + b + " at " + place, x.count(0), due == -1 ? (place + 2) / 4 : 0);
            }
        }
    }

    // "a second letter like the first", whichever letter it is; a FIRST letter may be like the last of another ROAD.
    private static void likeLetters() {
        for (char one : LETTERS.toCharArray()) {
            for (char other : LETTERS.toCharArray()) {
                BishopsPeace x = Checks.withRoads("" + one + other + "5;" + other + one + "5");
                CHECKS.due("5: " + one + other, x.fault(), one == other ? 1 : -1);
                CHECKS.due("6: " + one + other, x.road(1, 0), one == other ? -2 : other - 'a');
            }
        }
    }

    // The first byte that cannot go on stays the FAULT, whatever comes behind it.
    private static void faultStays() {
        int[] places = {0, 1, 2, 3, 4, 23, 44, 45};
        for (int place : places) {
            BishopsPeace x = Checks.withRoads(States.TWELVE.substring(0, place));
            x.type('?');
            Checks.typeAll(x, States.TWELVE.substring(place + 1, 46));
            x.type('?');
            CHECKS.due("5: the first of two", x.fault(), place);
            x.wipe();
            CHECKS.due("5: gone with the text", x.fault(), -1);
        }
    }

    // "(an empty text is well; of one that is not ended, as behind a ;, its end)"
    private static void notEnded() {
        CHECKS.due("5: an empty text is well", new BishopsPeace().fault(), -1);
        for (int length = 1; length <= 47; length++) {
            BishopsPeace x = Checks.withRoads(States.TWELVE.substring(0, length));
            CHECKS.due("5: of " + length + " bytes", x.fault(), length % 4 == 3 ? -1 : length);
        }
    }

    // "or of the first byte of a thirteenth": twelve fill all bytes, so none can be typed, and twelve stay well.
    private static void noThirteenth() {
        BishopsPeace x = Checks.withRoads(States.TWELVE);
        for (char b : ";ab1".toCharArray()) {
            CHECKS.due("2: FULL", x.type(b), -4);
            CHECKS.due("5: well", x.fault(), -1);
            CHECKS.due("37: twelve", x.count(0), 12);
        }
    }

    // "With a FAULT there are none."
    private static void noneWithFault() {
        for (String text : new String[] {"ab1;", "ab1;b", "ab1;bc", "ab1;bc0", "ab1;bb1", "ab1;bc1 ", "ab1;bc1;", "?ab1;bc1"}) {
            BishopsPeace x = Checks.withRoads(text);
            CHECKS.holds("5: a FAULT", x.fault() >= 0);
            CHECKS.due("37: no ROADS in " + text, x.count(0), 0);
            CHECKS.due("37: no HOURS in " + text, x.count(5), 0);
            CHECKS.due("37: but bytes", x.count(1), text.length());
            CHECKS.due("6: no ROAD 0", x.road(0, 0), -2);
            CHECKS.due("19: no WAY", x.way(0, 1, 0), -1);
            CHECKS.due("19: no next LAND", x.way(0, 1, 1), -1);
            CHECKS.due("20: no RAID", x.raid(0, 1, 1, 0), -1);
            CHECKS.due("24: no HOME", x.home(0, 1, 30, -2), -1);
            CHECKS.due("24: above", x.home(0, 1, 30, -4), 0);
            CHECKS.due("24: below", x.home(0, 1, 30, -3), 1);
        }
    }

    // A FAULT that is undone leaves the ROADS as they were.
    private static void faultUndone() {
        BishopsPeace x = Checks.withRoads("ah9");
        x.type(';');
        CHECKS.due("19: none", x.way(0, 7, 0), -1);
        x.undo();
        CHECKS.due("19: as before", x.way(0, 7, 0), 9);
        CHECKS.due("6: as before", x.road(0, 1), 7);
    }

    // "LANDS 0 to 7", "how many HOURS it takes (either way)": 1 and 9, from both ends.
    private static void eitherWay() {
        for (int hours : new int[] {1, 9}) {
            for (String ends : new String[] {"ah", "ha", "ab", "gh"}) {
                BishopsPeace x = Checks.withRoads(ends + hours);
                int one = ends.charAt(0) - 'a';
                int other = ends.charAt(1) - 'a';
                CHECKS.due("6: one", x.road(0, 0), one);
                CHECKS.due("6: other", x.road(0, 1), other);
                CHECKS.due("19: forth", x.way(one, other, 0), hours);
                CHECKS.due("19: back", x.way(other, one, 0), hours);
                CHECKS.due("24: forth", x.home(one, other, 0, -2), hours);
                CHECKS.due("24: back", x.home(other, one, 0, -2), hours);
            }
        }
    }

    // "No ROADS; all SHEETS are LOST", and two objects have nothing in common.
    private static void newObjects() {
        BishopsPeace x = States.make("full");
        BishopsPeace y = new BishopsPeace();
        CHECKS.due("1: no ROADS", y.count(0), 0);
        CHECKS.due("1: no bytes", y.count(1), 0);
        for (int s = 0; s < 4; s++) {
            CHECKS.due("1: LOST", y.lose(s), -11);
            CHECKS.due("1: the other object's is not", x.lose(s), 60);
        }
    }

    // "An object is used for at most 512 calls": the 512th still answers.
    private static void calls512() {
        BishopsPeace x = new BishopsPeace();
        for (int k = 1; k <= 255; k++) {
            CHECKS.due("call " + (2 * k - 1), x.type('a'), 1);
            CHECKS.due("call " + 2 * k, x.undo(), 0);
        }
        CHECKS.due("call 511", x.sheet(0, 0, 60), 60);
        CHECKS.due("call 512", x.lose(0), 60);
    }

    public static void main(String[] args) {
        upTo47Bytes();
        everyByte();
        wiping();
        undoing();
        noneToTwelve();
        everyByteAtEveryPlace();
        likeLetters();
        faultStays();
        notEnded();
        noThirteenth();
        noneWithFault();
        faultUndone();
        eitherWay();
        newObjects();
        calls512();
        CHECKS.end();
    }
}
