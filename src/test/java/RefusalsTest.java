import java.util.ArrayList;
import java.util.Arrays;
import java.util.List;

/**
 * "Refusals, the first that fits, in the order told at each act ... They change nothing (FINDINGS but count() 8)":
 * every refusal of every promise beside a like object that was not called; one number not as told is BAD in every state of
 * States, the other refusals are made in a state or two in which they are due.
 */
public final class RefusalsTest {
    private static final Checks CHECKS = new Checks("RefusalsTest");
    private static final int MIN = Integer.MIN_VALUE, MAX = Integer.MAX_VALUE;
    private static final int BAD = -2, NOT = -3, FULL = -4, NULL = -11, INDEX = -12, CAST = -13, STORE = -14, SIZE = -15;

    // What the document tells of each argument: its first and its last number, or 0..* for any; 1..= is held at 1.
    private static final String[] TOLD = {"type 0..255", "land 0..7 0..2 0..=", "land 0..7 0..= 0..3", "land 0..7 1..= 0..1",
        "land 0..7 2..= 0..16", "bell 0..3 0..1 0..23", "read 0..3", "feast 0..27", "lent 0..15", "war 0..671 0..7",
        "strikes 0..671 0..7 0..3 0..3", "next 0..671 0..7 0..1", "left 0..3 0..7", "best 0..7", "unlike 0..3 0..3",
        "way 0..7 0..7 0..1", "raid 0..7 0..7 1..9 0..671", "set 0..1 0..99", "siege 0..7 0..671 1..999 0..1",
        "holds 0..7 0..671 1..999", "home 0..7 0..7 0..671 -4..7", "agree 0..2", "middle 0..2", "seen 0..23 0..7 0..1",
        "season 0..* 0..7", "sheet 0..3 0..2 0..=", "lose 0..3", "lay 0..3 0..2 0..* 0..*", "get 0..3 0..2 0..*",
        "copy 0..3 0..* 0..3 0..* 0..*",
        "write 0..7 0..671 0..3", "count 0..8"};

    /** A call that is due to be refused: the answer, the FINDING that is then the latest, nothing else changed. */
    private static void refused(String state, long due, String name, int... args) {
        String say = "in a " + state + " object " + States.call(name, args);
        for (int part = 0; part < States.PARTS; part++) {
            BishopsPeace called = States.make(state);
            BishopsPeace twin = States.make(state);
            CHECKS.due(say, States.answer(called, name, args), name.equals("get") ? MIN : due);
            CHECKS.due(say + ", then count(8)", called.count(8), due <= NULL ? -10 - due : twin.count(8));
            String left = States.readOut(called, part);
            CHECKS.holds(say + " changes nothing, part " + part, left.equals(States.readOut(twin, part)));
        }
    }

    private static void refusedEverywhere(long due, String name, int... args) {
        for (String state : States.ALL) {
            refused(state, due, name, args);
        }
    }

    // Were it blind to a part of the state, the twins would be alike whatever a refusal did.
    private static void readingOutTells() {
        String[] changes = {"type 97", "undo", "land 3 0 1", "land 3 1 1", "land 3 2 1", "bell 2 0 9", "bell 2 1 9",
            "feast 15", "back", "lent 2", "set 0 1", "set 1 1", "seen 6 0 1", "forget", "sheet 3 0 1", "sheet 1 1 5",
            "sheet 2 1 7", "lose 0", "lay 0 0 4 9", "lay 1 1 0 9", "lay 2 2 6 9", "read 1", "write 0 0 2", "copy 1 0 1 1 2"};
        for (String change : changes) {
            String[] words = change.split(" ");
            int[] args = Arrays.stream(words).skip(1).mapToInt(Integer::parseInt).toArray();
            boolean tells = false;
            for (int part = 0; part < States.PARTS; part++) {
                BishopsPeace called = States.make("busy");
                States.answer(called, words[0], args);
                tells |= !States.readOut(called, part).equals(States.readOut(States.make("busy"), part));
            }
            CHECKS.holds("what is read out tells of " + change, tells);
        }
    }

    private static boolean goesToItself(String name, int[] args) {
        return (name.equals("way") || name.equals("raid") || name.equals("home")) && args[0] == args[1];
    }

    private static boolean isAny(String range) {
        return range.endsWith("*") || range.endsWith("=");
    }

    private static int end(String range, int which) {
        return Integer.parseInt(range.split("\\.\\.")[which]);
    }

    private static boolean isTold(String range, int v) {
        return isAny(range) || v >= end(range, 0) && v <= end(range, 1);
    }

    private static int[] edges(String range) {
        if (range.endsWith("=")) {
            return new int[] {end(range, 0)};
        }
        if (range.endsWith("*")) {
            return new int[] {0, -1, 1, MIN, MAX};
        }
        return new int[] {end(range, 0), end(range, 1), end(range, 0) - 1, end(range, 1) + 1, MIN, MAX};
    }

    /** Every row of edges of a call's arguments, the last number as told and the first that is not. */
    private static List<int[]> rowsOfEdges(String[] words) {
        List<int[]> rows = new ArrayList<>();
        rows.add(new int[0]);
        for (int k = 1; k < words.length; k++) {
            List<int[]> longer = new ArrayList<>();
            for (int[] row : rows) {
                for (int edge : edges(words[k])) {
                    int[] more = Arrays.copyOf(row, k);
                    more[k - 1] = edge;
                    longer.add(more);
                }
            }
            rows = longer;
        }
        return rows;
    }

    private static int wrongOnes(String[] words, int[] row) {
        int wrong = goesToItself(words[0], row) ? 1 : 0;
        for (int k = 0; k < row.length; k++) {
            wrong += isTold(words[k + 1], row[k]) ? 0 : 1;
        }
        return wrong;
    }

    // A number beyond what is told is BAD, whatever the others are; the last one as told is not.
    private static void everyEdge() {
        for (String told : TOLD) {
            String[] words = told.split(" ");
            for (int[] row : rowsOfEdges(words)) {
                int wrong = wrongOnes(words, row);
                if (wrong == 1) {
                    refusedEverywhere(BAD, words[0], row);
                } else if (wrong > 1) {
                    refused("busy", BAD, words[0], row);
                } else if (!words[0].equals("get")) {
                    long got = States.answer(States.make("busy"), words[0], row);
                    CHECKS.holds(States.call(words[0], row) + " is not BAD", got != BAD);
                }
            }
        }
    }

    // "road ... BAD": ROADS 0 on, as many as there are; with a FAULT, or an empty text, there are none.
    private static void roadsThatAreNot() {
        int[] number = {0, 5, 0, 12};
        for (int k = 0; k < number.length; k++) {
            for (int what = 0; what <= 2; what++) {
                for (int road : new int[] {-1, number[k], number[k] + 1, MIN, MAX}) {
                    refused(States.ALL[k], BAD, "road", road, what);
                }
                for (int road = 0; road < number[k]; road++) {
                    CHECKS.holds("6: a road", States.make(States.ALL[k]).road(road, what) >= 0);
                }
            }
            for (int what : new int[] {-1, 3, MIN, MAX}) {
                refused(States.ALL[k], BAD, "road", 0, what);
            }
        }
    }

    // "BAD: also to itself, i NONE."
    private static void toItself() {
        for (int land = 0; land < 8; land++) {
            refusedEverywhere(BAD, "way", land, land, 0);
            refusedEverywhere(BAD, "way", land, land, 1);
            refusedEverywhere(BAD, "raid", land, land, 1, 0);
            for (int i = -4; i <= 7; i++) {
                refused("busy", BAD, "home", land, land, 30, i);
            }
        }
        refusedEverywhere(BAD, "home", 0, 1, 30, -1);
        refusedEverywhere(BAD, "home", 0, 7, 0, -1);
    }

    // "undo ... NOT: there is none", "back ... NOT: there is none".
    private static void noneToUndo() {
        refused("new", NOT, "undo");
        refused("new", NOT, "back");
    }

    // "up to 47 bytes", "FEASTS, 8 at most", "SEEN, 6 at most"; BAD is ahead of FULL.
    private static void noRoom() {
        for (int b : new int[] {0, ';', 'a', 255}) {
            refused("full", FULL, "type", b);
        }
        for (int day : new int[] {0, 13, 27}) {
            refused("full", FULL, "feast", day);
        }
        refused("full", FULL, "seen", 0, 0, 0);
        refused("full", FULL, "seen", 23, 7, 1);
        refused("full", BAD, "type", 256);
        refused("full", BAD, "feast", 28);
        refused("full", BAD, "seen", 24, 0, 0);
    }

    // "1 NULL: the SHEET is LOST"; BAD is ahead of it, all other FINDINGS are behind it.
    private static void lostSheets() {
        for (int s = 0; s < 4; s++) {
            refused("new", NULL, "read", s);
            refused("new", NULL, "lose", s);
            refused("new", NULL, "write", 0, 0, s);
            refused("new", NULL, "write", 7, 671, s);
            for (int form = 0; form < 3; form++) {
                refused("new", NULL, "lay", s, form, 0, 1);
                refused("new", NULL, "get", s, form, -1);
            }
        }
        refused("busy", NULL, "copy", 3, 0, 0, 0, 0);
        refused("busy", NULL, "copy", 0, 0, 3, 0, 0);
        refused("busy", NULL, "copy", 3, 0, 3, 0, 0);
        refused("busy", NULL, "copy", 3, -1, 1, MAX, -1);
        refused("busy", NULL, "copy", 1, MIN, 3, -1, 61);
        refused("busy", BAD, "copy", 3, 0, 4, 0, 0);
        refused("busy", BAD, "copy", -1, 0, 3, 0, 0);
        refused("busy", BAD, "lay", 3, 3, 0, 0);
        refused("busy", BAD, "get", 3, -1, 0);
        refused("busy", BAD, "write", 8, 0, 3);
        refused("busy", BAD, "write", 0, 672, 3);
    }

    // "3 CAST: it has another FORM", ahead of INDEX; "2 INDEX: there is no such item".
    private static void wrongItems() {
        for (int s = 0; s < 3; s++) {
            int items = 5 + s;
            for (int i : new int[] {-1, items, items + 1, MIN, MAX}) {
                for (int form = 0; form < 3; form++) {
                    refused("busy", form == s ? INDEX : CAST, "lay", s, form, i, 1);
                    refused("busy", form == s ? INDEX : CAST, "get", s, form, i);
                }
            }
            for (int form = 0; form < 3; form++) {
                if (form != s) {
                    refused("busy", CAST, "lay", s, form, 0, 1);
                    refused("busy", CAST, "get", s, form, items - 1);
                }
            }
        }
        refused("full", INDEX, "lay", 2, 2, 60, 1);
        refused("full", INDEX, "get", 2, 2, 60);
        refused("full", INDEX, "get", 2, 2, -1);
    }

    // "4 STORE: unlike FORMS", ahead of INDEX, with no items to copy, too.
    private static void unlikeForms() {
        for (int s = 0; s < 3; s++) {
            for (int t = 0; t < 3; t++) {
                if (s != t) {
                    refused("busy", STORE, "copy", s, 0, t, 0, 1);
                    refused("busy", STORE, "copy", s, 0, t, 0, 0);
                    refused("busy", STORE, "copy", s, -1, t, 61, MAX);
                }
            }
        }
    }

    // "INDEX: below 0, not so many (with n 0, too, if i or j is above how many there are)".
    private static void wrongRuns() {
        int[][] runs = {{-1, 0, 1}, {0, -1, 1}, {0, 0, -1}, {-1, 0, 0}, {0, -1, 0}, {MIN, 0, 0}, {0, MIN, 0}, {0, 0, MIN},
            {0, 0, 61}, {1, 0, 60}, {0, 1, 60}, {60, 0, 1}, {0, 60, 1}, {61, 0, 0}, {0, 61, 0}, {61, 61, 0}, {0, 0, MAX},
            {1, 0, MAX}, {0, 1, MAX}, {MAX, 0, 0}, {0, MAX, 0}, {MAX, 0, 1}, {0, MAX, 1}, {MAX, MAX, MAX}, {60, 60, MAX},
            {60, 60, -1}, {61, 0, -1}, {MIN, MIN, MIN}, {2, 0, MAX - 1}, {MAX - 59, 0, 60}, {MIN, 0, MIN}};
        for (int[] run : runs) {
            refused("full", INDEX, "copy", 0, run[0], 3, run[1], run[2]);
            refused("full", INDEX, "copy", 1, run[0], 1, run[1], run[2]);
        }
        refused("busy", INDEX, "copy", 0, 0, 0, 1, 5);
        refused("busy", INDEX, "copy", 0, 6, 0, 0, 0);
        refused("busy", INDEX, "copy", 0, 0, 0, 6, 0);
    }

    // "BAD: SHEET, FORM, above 60; SIZE" (below 0).
    private static void wrongSizes() {
        for (int form = 0; form < 3; form++) {
            for (int s = 0; s < 4; s++) {
                refusedEverywhere(SIZE, "sheet", s, form, -1);
                refusedEverywhere(BAD, "sheet", s, form, 61);
            }
            refusedEverywhere(SIZE, "sheet", 0, form, MIN);
            refusedEverywhere(BAD, "sheet", 0, form, MAX);
        }
        refusedEverywhere(BAD, "sheet", 4, 0, -1);
        refusedEverywhere(BAD, "sheet", 0, 3, -1);
    }

    // "8 the number of the latest FINDING (0 before any)": each in turn; what is no FINDING leaves it.
    private static void latestFinding() {
        BishopsPeace x = new BishopsPeace();
        x.lose(4);
        x.undo();
        CHECKS.due("37: 0 before any", x.count(8), 0);
        x.sheet(0, 0, 2);
        x.sheet(1, 1, 2);
        int[] due = {5, 4, 3, 2, 1, 2, 5};
        long[] answers = {x.sheet(0, 0, -1), SIZE, x.copy(0, 0, 1, 0, 0), STORE, x.lay(0, 1, 0, 0), CAST, x.lay(0, 0, 2, 0),
            INDEX, x.read(2), NULL, x.copy(0, 3, 0, 0, 0), INDEX, x.sheet(3, 2, MIN), SIZE};
        for (int k = 0; k < due.length; k++) {
            CHECKS.due("-10 less the number", answers[2 * k], answers[2 * k + 1]);
            CHECKS.due("-10 less the number", answers[2 * k], -10 - due[k]);
        }
        CHECKS.due("37: the latest", x.count(8), 5);
        x.get(0, 0, 2);
        CHECKS.due("34: count() 8 tells INDEX", x.count(8), 2);
        x.get(0, 1, 0);
        CHECKS.due("34: count() 8 tells CAST", x.count(8), 3);
        x.get(2, 0, 0);
        CHECKS.due("34: count() 8 tells NULL", x.count(8), 1);
        x.get(0, 0, 1);
        x.get(4, 0, 0);
        x.count(9);
        x.sheet(2, 2, 60);
        x.lose(2);
        CHECKS.due("37: it stays the latest", x.count(8), 1);
    }

    public static void main(String[] args) {
        readingOutTells();
        everyEdge();
        roadsThatAreNot();
        toItself();
        noneToUndo();
        noRoom();
        lostSheets();
        wrongItems();
        unlikeForms();
        wrongRuns();
        wrongSizes();
        latestFinding();
        CHECKS.end();
    }
}
