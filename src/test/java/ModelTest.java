import java.lang.reflect.Method;
import java.util.Arrays;
import java.util.Random;

/** Random runs of calls: the class and the plain model must answer alike, whatever the arguments. */
public final class ModelTest {
    // An object answers 512 calls; the dearest step of a run makes some 130, and the digest is the last.
    private static final int RUNS = 1000, CALLS = 512 - 135;
    private static final int[] WILD = {Integer.MIN_VALUE, Integer.MIN_VALUE + 1, -1000, -5, -4, -3, -2, -1, 0, 1, 2, 3, 4,
        5, 7, 8, 9, 10, 12, 15, 16, 17, 23, 24, 27, 28, 47, 48, 59, 60, 61, 99, 100, 255, 256, 671, 672, 999, 1000,
        Integer.MAX_VALUE - 1, Integer.MAX_VALUE};
    // The highest argument that is told as right, by the call's name and the arguments' order.
    private static final String[] LIMITS = {"type 255", "wipe", "undo", "fault", "road 11 2", "land 7 2 16",
        "land 7 0 3", "land 7 1 1", "bell 3 1 23", "read 3", "feast 27", "back", "lent 15", "war 671 7",
        "strikes 671 7 3 3", "next 671 7 1", "left 3 7", "best 7", "unlike 3 3", "way 7 7 1", "raid 7 7 9 671",
        "set 1 99", "siege 7 671 999 1", "holds 7 671 999", "home 7 7 671 7", "agree 2", "middle 2", "seen 23 7 1",
        "forget", "which", "season 9999 7", "sheet 3 2 60", "lose 3", "lay 3 2 59 70000", "get 3 2 59",
        "copy 3 60 3 60 60", "write 7 671 3", "count 8", "digest"};

    private final Random lots;
    private final Checks checks;
    private final BishopsPeace real = new BishopsPeace();
    private final PlainModel model = new PlainModel();
    private final StringBuilder before = new StringBuilder();
    private int calls = 0;

    private ModelTest(long seed, Checks checks) {
        this.lots = new Random(seed);
        this.checks = checks;
    }

    private void both(String name, int... args) throws Exception {
        Class<?>[] types = new Class<?>[args.length];
        Arrays.fill(types, int.class);
        Object[] given = Arrays.stream(args).boxed().toArray();
        Method of = BishopsPeace.class.getMethod(name, types);
        Method ofModel = PlainModel.class.getDeclaredMethod(name, types);
        long got = ((Number) of.invoke(real, given)).longValue();
        long want = ((Number) ofModel.invoke(model, given)).longValue();
        calls++;
        String call = name + Arrays.toString(args);
        before.append(call).append(' ');
        checks.due(call + (got == want ? "" : " behind " + before), got, want);
    }

    private void roads() throws Exception {
        both("wipe");
        int number = lots.nextInt(13);
        int lands = 2 + lots.nextInt(7);
        for (int r = 0; r < number; r++) {
            int one = lots.nextInt(lands);
            int other = (one + 1 + lots.nextInt(lands - 1)) % lands;
            if (r > 0) {
                both("type", ';');
            }
            both("type", 'a' + one);
            both("type", 'a' + other);
            both("type", '1' + (lots.nextBoolean() ? lots.nextInt(3) : lots.nextInt(9)));
        }
        if (lots.nextInt(4) == 0) {
            both("type", lots.nextBoolean() ? ';' : "abh019; i:`".charAt(lots.nextInt(11)));
        }
    }

    private void sheetCalls() throws Exception {
        int s = lots.nextInt(4);
        int form = lots.nextInt(3);
        int n = lots.nextInt(12);
        both("sheet", s, form, n);
        for (int k = 0; k < n; k++) {
            both("lay", s, form, k, lots.nextInt(26) == 0 ? lots.nextInt() : lots.nextInt(26));
        }
        both(lots.nextBoolean() ? "read" : "lose", s);
        both("copy", s, lots.nextInt(5), lots.nextInt(4), lots.nextInt(5), lots.nextInt(6));
        for (int k = 0; k < n; k++) {
            both("get", s, form, k);
        }
    }

    private void journeyCalls() throws Exception {
        int hour = 168 * lots.nextInt(4) + lots.nextInt(70);
        int to = lots.nextInt(8);
        for (int from = 0; from < 8; from++) {
            both("way", from, to, 0);
            both("way", from, to, 1);
            both("raid", from, to, 1 + lots.nextInt(9), hour);
            for (int i = -4; i <= 7; i++) {
                both("home", from, to, hour, i);
            }
        }
        both("siege", to, hour, 1 + lots.nextInt(999), lots.nextInt(2));
        both("holds", to, hour, 1 + lots.nextInt(999));
    }

    private void anyCall() throws Exception {
        String[] limits = LIMITS[lots.nextInt(LIMITS.length)].split(" ");
        int[] args = new int[limits.length - 1];
        for (int k = 0; k < args.length; k++) {
            int most = Integer.parseInt(limits[k + 1]);
            args[k] = lots.nextInt(most + 1);
            if (lots.nextInt(12) == 0) {
                args[k] = WILD[lots.nextInt(WILD.length)];
            }
        }
        if (!isSkipped(limits[0])) {
            lean(limits[0], args);
            both(limits[0], args);
        }
    }

    // Wild bytes, much LENT and lost sheets would leave little to look at.
    private boolean isSkipped(String name) {
        return switch (name) {
            case "type", "wipe", "undo", "lose" -> lots.nextInt(8) > 0;
            default -> false;
        };
    }

    private void lean(String name, int[] args) {
        if (lots.nextInt(4) == 0) {
            return;
        }
        switch (name) {
            case "lent" -> args[0] &= lots.nextInt(16) & lots.nextInt(16);
            case "land" -> args[2] = args[1] == 1 ? 0 : args[2];
            case "set" -> args[1] = args[1] % 10;
            case "raid" -> args[3] = args[3] % 300;
            case "home" -> args[3] = -4 + lots.nextInt(6);
            case "copy" -> args[4] = args[4] % 10;
            default -> { }
        }
    }

    private void run() throws Exception {
        roads();
        while (calls < CALLS) {
            int lot = lots.nextInt(60);
            if (lot == 0 || model.count(0) == 0 && lot < 10) {
                roads();
            } else if (lot == 1) {
                sheetCalls();
            } else if (lot == 2) {
                journeyCalls();
            } else {
                anyCall();
            }
        }
        both("digest");
        checks.holds("at most 512 calls, not " + calls, calls <= 512);
    }

    public static void main(String[] args) throws Exception {
        Checks checks = new Checks("ModelTest");
        for (int run = 0; run < RUNS; run++) {
            new ModelTest(run, checks).run();
        }
        checks.end();
    }
}
