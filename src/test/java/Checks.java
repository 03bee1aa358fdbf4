import java.util.ArrayList;
import java.util.List;

/** Gathers wrong answers, and ends a test with exit code 1 if there was one. */
final class Checks {
    private final String test;
    private final List<String> wrong = new ArrayList<>();
    private int made = 0;

    Checks(String test) {
        this.test = test;
    }

    void due(String call, long got, long want) {
        made++;
        if (got != want) {
            wrong.add(call + " answered " + got + ", due is " + want);
        }
    }

    void holds(String claim, boolean is) {
        made++;
        if (!is) {
            wrong.add("not so: " + claim);
        }
    }

    void end() {
        for (int k = 0; k < wrong.size() && k < 50; k++) {
            System.out.println(test + ": " + wrong.get(k));
        }
        System.out.println(test + ": " + made + " checks, " + wrong.size() + " wrong");
        if (!wrong.isEmpty() || made == 0) {
            System.exit(1);
        }
    }

    static BishopsPeace withRoads(String text) {
        BishopsPeace x = new BishopsPeace();
        typeAll(x, text);
        return x;
    }

    static void typeAll(BishopsPeace x, String text) {
        for (int k = 0; k < text.length(); k++) {
            x.type(text.charAt(k));
        }
    }
}
