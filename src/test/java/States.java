import java.lang.reflect.Method;
import java.util.ArrayList;
import java.util.Arrays;
import java.util.HashMap;
import java.util.List;
import java.util.Map;

/** States to make a call in, calls by their names, and all that an object holds, read out as a text. */
final class States {
    static final String[] ALL = {"new", "busy", "faulty", "full"};
    static final String TWELVE = "ab1;bc2;cd3;de4;ef5;fg6;gh7;ha8;ac9;bd1;ce2;df3";
    // An object answers 512 calls; what it holds takes more to be read out, so it is read in parts of like objects.
    static final int PARTS = 4;

    private static final Map<String, Method> METHODS = new HashMap<>();

    private States() { }

    static BishopsPeace make(String state) {
        return switch (state) {
            case "new" -> new BishopsPeace();
            case "busy" -> busy("ab1;bc2;ch3;ad4;dh9");
            case "faulty" -> busy("ab1;bc2;cc");
            case "full" -> full();
            default -> throw new IllegalArgumentException(state);
        };
    }

    /** Something of everything; SHEET 3 is LOST, the latest FINDING is CAST. */
    private static BishopsPeace busy(String roads) {
        BishopsPeace x = Checks.withRoads(roads);
        for (int land = 0; land < 8; land++) {
            x.land(land, 0, land % 4);
            x.land(land, 2, land + 3);
        }
        x.land(4, 1, 1);
        for (int parish = 0; parish < 4; parish++) {
            x.bell(parish, 0, 3 + parish);
            x.bell(parish, 1, 20 - parish);
        }
        x.feast(1);
        x.feast(8);
        x.lent(4);
        x.set(0, 7);
        x.set(1, 3);
        x.seen(12, 1, 1);
        x.seen(2, 2, 0);
        for (int form = 0; form < 3; form++) {
            x.sheet(form, form, 5 + form);
            for (int i = 0; i < 5; i++) {
                x.lay(form, form, i, 10 * form + i + 1);
            }
        }
        x.get(0, 2, 0);
        return x;
    }

    /** As much as there may be of everything; the latest FINDING is SIZE. */
    private static BishopsPeace full() {
        BishopsPeace x = Checks.withRoads(TWELVE);
        for (int land = 0; land < 8; land++) {
            x.land(land, 0, 3);
            x.land(land, 1, 1);
            x.land(land, 2, 16);
        }
        for (int parish = 0; parish < 4; parish++) {
            x.bell(parish, 0, 23);
            x.bell(parish, 1, 23);
        }
        for (int k = 0; k < 8; k++) {
            x.feast(7 * (k / 2) + k % 2);
        }
        x.lent(15);
        x.set(0, 99);
        x.set(1, 99);
        for (int k = 0; k < 6; k++) {
            x.seen(23 - k, 7 - k, 1 - k % 2);
        }
        for (int s = 0; s < 4; s++) {
            x.sheet(s, s % 3, 60);
            x.lay(s, s % 3, 0, 24 + s);
            x.lay(s, s % 3, 59, -1 - s);
        }
        x.sheet(0, 0, -1);
        return x;
    }

    static long answer(BishopsPeace x, String name, int... args) {
        try {
            Object[] given = Arrays.stream(args).boxed().toArray();
            return ((Number) method(name, args.length).invoke(x, given)).longValue();
        } catch (ReflectiveOperationException wrong) {
            throw new IllegalStateException(call(name, args) + " threw", wrong);
        }
    }

    private static Method method(String name, int parameters) throws NoSuchMethodException {
        Method known = METHODS.get(name);
        if (known == null) {
            Class<?>[] types = new Class<?>[parameters];
            Arrays.fill(types, int.class);
            known = BishopsPeace.class.getMethod(name, types);
            METHODS.put(name, known);
        }
        return known;
    }

    static String call(String name, int... args) {
        String row = Arrays.toString(args);
        return name + "(" + row.substring(1, row.length() - 1) + ")";
    }

    /** A part of what an object holds, but for count() 8; the object is used up by it. */
    static String readOut(BishopsPeace x, int part) {
        List<Long> told = new ArrayList<>();
        switch (part) {
            case 0 -> readText(x, told);
            case 1 -> readPeace(x, told);
            default -> {
                readSheet(x, 2 * part - 4, told);
                readSheet(x, 2 * part - 3, told);
            }
        }
        return told.toString();
    }

    private static void readText(BishopsPeace x, List<Long> told) {
        told.add(x.digest());
        int bytes = x.count(1);
        for (int k = 0; k <= bytes; k++) {
            told.add((long) x.fault());
            told.add((long) x.count(5));
            told.add((long) x.road(x.count(0) - 1, 1));
            told.add((long) x.undo());
        }
    }

    private static void readPeace(BishopsPeace x, List<Long> told) {
        for (int what = 0; what < 8; what++) {
            told.add((long) x.count(what));
        }
        told.add((long) x.which());
        told.add((long) x.lent(0));
        for (int k = 0; k < 24; k++) {
            told.add((long) x.land(k / 3, k % 3, 0));
        }
        for (int k = 0; k < 8; k++) {
            told.add((long) x.bell(k / 2, k % 2, k % 2 == 0 ? 0 : 23));
        }
        int feasts = x.count(2);
        for (int k = 0; k <= feasts; k++) {
            for (int day = 0; day < 28; day += day % 7 < 2 ? 1 : 5) {
                told.add((long) x.war(24 * day + 12, 0));
            }
            told.add((long) x.back());
        }
        readSeen(x, told);
    }

    // What was SEEN shows in the DAYS that fit, by other BELLS and with other LANDS SWORN.
    private static void readSeen(BishopsPeace x, List<Long> told) {
        for (int bell = 0; bell < 24; bell++) {
            x.bell(0, 0, bell);
            told.add((long) x.which());
        }
        for (int land = 0; land < 8; land++) {
            x.land(land, 1, 1);
            told.add((long) x.which());
        }
        told.add((long) x.forget());
    }

    private static void readSheet(BishopsPeace x, int s, List<Long> told) {
        for (int form = 0; form < 3; form++) {
            for (int i = 0; i <= 60; i++) {
                int item = x.get(s, form, i);
                told.add((long) item);
                boolean otherForm = item == Integer.MIN_VALUE && x.count(8) != 2;
                i = otherForm ? 60 : i;
            }
        }
        told.add((long) x.lose(s));
    }
}
