import java.math.BigInteger;
import java.util.ArrayList;
import java.util.Arrays;
import java.util.List;

/**
 * The document once more, as slow and as literal as can be, sharing nothing with the class:
 * tables of hours, whole lists of ways, exact fractions, real arrays for the sheets.
 */
final class PlainModel {
    private final List<Integer> text = new ArrayList<>();
    private final int[] parish = new int[8];
    private final int[] sworn = new int[8];
    private final int[] danger = {4, 4, 4, 4, 4, 4, 4, 4};
    private final int[][] bells = {{6, 18}, {6, 18}, {6, 18}, {6, 18}};
    private final List<Integer> feasts = new ArrayList<>();
    private int lent = 0;
    private int breaks = 5;
    private int mends = 2;
    private final List<int[]> seen = new ArrayList<>();
    private final Object[] sheets = new Object[4];
    private int finding = 0;

    private record Way(List<Integer> lands, int hours, BigInteger above, BigInteger below) { }

    private static boolean in(int v, int low, int high) {
        return v >= low && v <= high;
    }

    private int find(int number) {
        finding = number;
        return -10 - number;
    }

    // ---- roads, lands, bells

    public int type(int b) {
        if (!in(b, 0, 255)) {
            return -2;
        }
        if (text.size() == 47) {
            return -4;
        }
        text.add(b);
        return text.size();
    }

    public int wipe() {
        int had = text.size();
        text.clear();
        return had;
    }

    public int undo() {
        if (text.isEmpty()) {
            return -3;
        }
        text.remove(text.size() - 1);
        return text.size();
    }

    private boolean canStillBeRoads(String s) {
        for (int more = 0; more <= 4; more++) {
            for (String tail : new String[] {"", "1", "a1", "b1", "ab1", ";ab1"}) {
                if (areRoads(s + tail)) {
                    return true;
                }
            }
        }
        return false;
    }

    private boolean areRoads(String s) {
        if (s.isEmpty()) {
            return true;
        }
        String[] parts = s.split(";", -1);
        for (String part : parts) {
            if (!part.matches("[a-h][a-h][1-9]") || part.charAt(0) == part.charAt(1)) {
                return false;
            }
        }
        return parts.length <= 12;
    }

    private String asText() {
        StringBuilder s = new StringBuilder();
        for (int b : text) {
            s.append((char) b);
        }
        return s.toString();
    }

    public int fault() {
        String s = asText();
        if (areRoads(s)) {
            return -1;
        }
        for (int k = 0; k < s.length(); k++) {
            if (!canStillBeRoads(s.substring(0, k + 1))) {
                return k;
            }
        }
        return s.length();
    }

    private int[][] roads() {
        String s = asText();
        if (!areRoads(s) || s.isEmpty()) {
            return new int[0][];
        }
        String[] parts = s.split(";");
        int[][] roads = new int[parts.length][];
        for (int r = 0; r < parts.length; r++) {
            roads[r] = new int[] {parts[r].charAt(0) - 97, parts[r].charAt(1) - 97, parts[r].charAt(2) - 48};
        }
        return roads;
    }

    public int road(int road, int what) {
        int[][] roads = roads();
        return in(road, 0, roads.length - 1) && in(what, 0, 2) ? roads[road][what] : -2;
    }

    public int land(int land, int what, int v) {
        if (!in(land, 0, 7) || !in(what, 0, 2)) {
            return -2;
        }
        int[] row = what == 0 ? parish : what == 1 ? sworn : danger;
        if (!in(v, 0, what == 0 ? 3 : what == 1 ? 1 : 16)) {
            return -2;
        }
        int was = row[land];
        row[land] = v;
        return was;
    }

    public int bell(int p, int what, int v) {
        if (!in(p, 0, 3) || !in(what, 0, 1) || !in(v, 0, 23)) {
            return -2;
        }
        int was = bells[p][what];
        bells[p][what] = v;
        return was;
    }

    public int read(int s) {
        if (!in(s, 0, 3)) {
            return -2;
        }
        if (sheets[s] == null) {
            return find(1);
        }
        for (int k = 0; k < 8; k++) {
            if (k >= size(s) || !in(item(s, k), 0, 23)) {
                return k;
            }
            bells[k / 2][k % 2] = item(s, k);
        }
        return 8;
    }

    public int feast(int day) {
        if (!in(day, 0, 27)) {
            return -2;
        }
        if (feasts.size() == 8) {
            return -4;
        }
        feasts.add(day);
        return feasts.size();
    }

    public int back() {
        if (feasts.isEmpty()) {
            return -3;
        }
        feasts.remove(feasts.size() - 1);
        return feasts.size();
    }

    public int lent(int weeks) {
        if (!in(weeks, 0, 15)) {
            return -2;
        }
        int was = lent;
        lent = weeks;
        return was;
    }

    // ---- hours

    private boolean byBells(int hour, int p) {
        int day = hour / 24 % 7;
        int clock = hour % 24;
        return day == 0 && clock >= bells[p][0] || day == 1 || day == 2 && clock < bells[p][1];
    }

    private boolean isWar(int hour, int land, List<Integer> holy) {
        boolean inLent = (lent & 1 << hour / 168) != 0;
        return hour <= 671 && !inLent && !holy.contains(hour / 24) && sworn[land] == 0 && byBells(hour, parish[land]);
    }

    public int war(int hour, int land) {
        if (!in(hour, 0, 671) || !in(land, 0, 7)) {
            return -2;
        }
        return isWar(hour, land, feasts) ? 1 : 0;
    }

    public int strikes(int hour, int land, int one, int other) {
        if (!in(hour, 0, 671) || !in(land, 0, 7) || !in(one, 0, 3) || !in(other, 0, 3)) {
            return -2;
        }
        boolean tuesday = hour / 24 % 7 == 1;
        boolean[] may = {true, false, tuesday, false};
        boolean[] mayBeStruck = {true, true, true, false};
        return isWar(hour, land, feasts) && may[one] && mayBeStruck[other] ? 1 : 0;
    }

    public int next(int hour, int land, int is) {
        if (!in(hour, 0, 671) || !in(land, 0, 7) || !in(is, 0, 1)) {
            return -2;
        }
        for (int h = hour; h <= 671; h++) {
            if (war(h, land) == is) {
                return h;
            }
        }
        return -1;
    }

    private int hoursOfWar(int first, int behind, int land, List<Integer> holy) {
        int sum = 0;
        for (int h = first; h < behind; h++) {
            sum += isWar(h, land, holy) ? 1 : 0;
        }
        return sum;
    }

    public int left(int week, int land) {
        return in(week, 0, 3) && in(land, 0, 7) ? hoursOfWar(168 * week, 168 * week + 168, land, feasts) : -2;
    }

    public int best(int land) {
        if (!in(land, 0, 7)) {
            return -2;
        }
        int most = Math.max(Math.max(left(0, land), left(1, land)), Math.max(left(2, land), left(3, land)));
        int week = 0;
        while (left(week, land) != most) {
            week++;
        }
        return week;
    }

    public int unlike(int a, int b) {
        if (!in(a, 0, 3) || !in(b, 0, 3)) {
            return -2;
        }
        int sum = 0;
        for (int h = 0; h < 168; h++) {
            sum += byBells(h, a) != byBells(h, b) ? 1 : 0;
        }
        return sum;
    }

    private void gatherWays(List<Way> ways, Way soFar, int to, int hour) {
        int here = soFar.lands.get(soFar.lands.size() - 1);
        if (here == to) {
            ways.add(soFar);
            return;
        }
        for (int[] road : roads()) {
            for (int end = 0; end < 2; end++) {
                if (road[end] == here && !soFar.lands.contains(road[1 - end])) {
                    gatherWays(ways, longer(soFar, road[1 - end], road[2], to, hour), to, hour);
                }
            }
        }
    }

    private Way longer(Way way, int land, int hours, int to, int hour) {
        List<Integer> lands = new ArrayList<>(way.lands);
        lands.add(land);
        int then = way.hours + hours;
        boolean perhapsCaught = land != to && isWar(hour + then, land, feasts);
        int free = perhapsCaught ? 16 - danger[land] : 16;
        return new Way(lands, then, way.above.multiply(BigInteger.valueOf(free)),
            way.below.multiply(BigInteger.valueOf(16)));
    }

    private List<Way> allWays(int from, int to, int hour) {
        List<Way> ways = new ArrayList<>();
        gatherWays(ways, new Way(List.of(from), 0, BigInteger.ONE, BigInteger.ONE), to, hour);
        return ways;
    }

    private static int compareRows(List<Integer> a, List<Integer> b) {
        for (int k = 0; k < a.size() && k < b.size(); k++) {
            if (!a.get(k).equals(b.get(k))) {
                return a.get(k) - b.get(k);
            }
        }
        return a.size() - b.size();
    }

    private Way shortestWay(int from, int to) {
        return allWays(from, to, 0).stream()
            .min((a, b) -> a.hours != b.hours ? a.hours - b.hours : compareRows(a.lands, b.lands)).orElse(null);
    }

    public int way(int from, int to, int what) {
        if (!in(from, 0, 7) || !in(to, 0, 7) || from == to || !in(what, 0, 1)) {
            return -2;
        }
        Way way = shortestWay(from, to);
        return way == null ? -1 : what == 0 ? way.hours : way.lands.get(1);
    }

    // ---- raids, sieges

    /** The hour in which a march comes to its end, or -1 if it comes somewhere in peace. */
    private int march(List<Integer> lands, int hour) {
        int now = hour;
        for (int k = 1; k < lands.size(); k++) {
            int least = 10;
            for (int[] road : roads()) {
                boolean there = road[0] == lands.get(k - 1) && road[1] == lands.get(k);
                boolean back = road[1] == lands.get(k - 1) && road[0] == lands.get(k);
                least = there || back ? Math.min(least, road[2]) : least;
            }
            now += least;
            if (k < lands.size() - 1 && !isWar(now, lands.get(k), feasts)) {
                return -1;
            }
        }
        return now;
    }

    private boolean succeeds(Way there, Way home, int to, int strike, int start) {
        int now = march(there.lands, start);
        for (int k = 0; k < strike && now >= 0; k++) {
            now = isWar(now, to, feasts) ? now + 1 : -1;
        }
        int end = now < 0 ? -1 : march(home.lands, now);
        return end >= 0 && end <= 671;
    }

    public int raid(int from, int to, int strike, int hour) {
        if (!in(from, 0, 7) || !in(to, 0, 7) || from == to || !in(strike, 1, 9) || !in(hour, 0, 671)) {
            return -2;
        }
        Way there = shortestWay(from, to);
        Way home = shortestWay(to, from);
        for (int start = hour; there != null && start <= 671; start++) {
            if (succeeds(there, home, to, strike, start)) {
                return start;
            }
        }
        return -1;
    }

    public int set(int what, int v) {
        if (!in(what, 0, 1) || !in(v, 0, 99)) {
            return -2;
        }
        int was = what == 0 ? breaks : mends;
        breaks = what == 0 ? v : breaks;
        mends = what == 1 ? v : mends;
        return was;
    }

    private int[] besiege(int land, int hour, int stones, int mending) {
        int have = stones;
        for (int h = hour; h <= 671; h++) {
            if (isWar(h, land, feasts)) {
                have = Math.max(0, have - breaks);
            } else {
                have = Math.min(stones, have + mending);
            }
            if (have == 0) {
                return new int[] {h, 0};
            }
        }
        return new int[] {-1, have};
    }

    public int siege(int land, int hour, int stones, int what) {
        if (!in(land, 0, 7) || !in(hour, 0, 671) || !in(stones, 1, 999) || !in(what, 0, 1)) {
            return -2;
        }
        return besiege(land, hour, stones, mends)[what];
    }

    public int holds(int land, int hour, int stones) {
        if (!in(land, 0, 7) || !in(hour, 0, 671) || !in(stones, 1, 999)) {
            return -2;
        }
        for (int mending = 0; mending <= 99; mending++) {
            if (besiege(land, hour, stones, mending)[0] == -1) {
                return mending;
            }
        }
        return -1;
    }

    // ---- home, parishes

    private static int compareHomes(Way a, Way b) {
        int chance = b.above.multiply(a.below).compareTo(a.above.multiply(b.below));
        if (chance != 0) {
            return chance;
        }
        return a.hours != b.hours ? a.hours - b.hours : compareRows(a.lands, b.lands);
    }

    public int home(int from, int to, int hour, int i) {
        if (!in(from, 0, 7) || !in(to, 0, 7) || from == to || !in(hour, 0, 671) || !in(i, -4, 7) || i == -1) {
            return -2;
        }
        Way way = allWays(from, to, hour).stream().min(PlainModel::compareHomes).orElse(null);
        if (way == null) {
            return i == -4 ? 0 : i == -3 ? 1 : -1;
        }
        BigInteger common = way.above.gcd(way.below);
        return switch (i) {
            case -4 -> way.above.divide(common).intValueExact();
            case -3 -> way.below.divide(common).intValueExact();
            case -2 -> way.hours;
            default -> i < way.lands.size() ? way.lands.get(i) : -1;
        };
    }

    public int agree(int what) {
        if (!in(what, 0, 2)) {
            return -2;
        }
        int[] answer = {9, 0, 0};
        for (int monday = 0; monday < 24; monday++) {
            for (int wednesday = 0; wednesday < 24; wednesday++) {
                int changed = 0;
                for (int[] both : bells) {
                    changed += both[0] == monday && both[1] == wednesday ? 0 : 1;
                }
                if (changed < answer[0]) {
                    answer = new int[] {changed, monday, wednesday};
                }
            }
        }
        return answer[what];
    }

    public int middle(int what) {
        if (!in(what, 0, 2)) {
            return -2;
        }
        int[] answer = {9999, 0, 0};
        for (int monday = 0; monday < 24; monday++) {
            for (int wednesday = 0; wednesday < 24; wednesday++) {
                int hours = 0;
                for (int[] both : bells) {
                    hours += Math.abs(both[0] - monday) + Math.abs(both[1] - wednesday);
                }
                if (hours < answer[0]) {
                    answer = new int[] {hours, monday, wednesday};
                }
            }
        }
        return answer[what];
    }

    // ---- seen, seasons

    public int seen(int hour, int land, int is) {
        if (!in(hour, 0, 23) || !in(land, 0, 7) || !in(is, 0, 1)) {
            return -2;
        }
        if (seen.size() == 6) {
            return -4;
        }
        seen.add(new int[] {hour, land, is});
        return seen.size();
    }

    public int forget() {
        int had = seen.size();
        seen.clear();
        return had;
    }

    public int which() {
        int bits = 0;
        for (int day = 0; day < 28; day++) {
            final int first = 24 * day;
            bits |= seen.stream().allMatch(s -> war(first + s[0], s[1]) == s[2]) ? 1 << day : 0;
        }
        return bits;
    }

    public int season(int seed, int land) {
        if (!in(land, 0, 7)) {
            return -2;
        }
        List<Integer> holy = new ArrayList<>(feasts);
        int now = seed;
        for (int week = 0; week < 4; week++) {
            now = 1103515245 * now + 12345;
            holy.add(7 * week + (now >> 16 & 0xffff) % 7);
        }
        return hoursOfWar(0, 672, land, holy);
    }

    // ---- sheets

    private int form(int s) {
        return sheets[s] instanceof byte[] ? 0 : sheets[s] instanceof short[] ? 1 : 2;
    }

    private int size(int s) {
        return java.lang.reflect.Array.getLength(sheets[s]);
    }

    private int item(int s, int i) {
        return java.lang.reflect.Array.getInt(sheets[s], i);
    }

    private void put(int s, int i, int v) {
        if (sheets[s] instanceof byte[] row) {
            row[i] = (byte) v;
        } else if (sheets[s] instanceof short[] row) {
            row[i] = (short) v;
        } else {
            ((int[]) sheets[s])[i] = v;
        }
    }

    public int sheet(int s, int form, int n) {
        if (!in(s, 0, 3) || !in(form, 0, 2) || n > 60) {
            return -2;
        }
        if (n < 0) {
            return find(5);
        }
        sheets[s] = form == 0 ? new byte[n] : form == 1 ? new short[n] : new int[n];
        return n;
    }

    public int lose(int s) {
        if (!in(s, 0, 3)) {
            return -2;
        }
        if (sheets[s] == null) {
            return find(1);
        }
        int had = size(s);
        sheets[s] = null;
        return had;
    }

    private int wrong(int s, int form, int i) {
        return sheets[s] == null ? 1 : form(s) != form ? 3 : !in(i, 0, size(s) - 1) ? 2 : 0;
    }

    public int lay(int s, int form, int i, int v) {
        if (!in(s, 0, 3) || !in(form, 0, 2)) {
            return -2;
        }
        if (wrong(s, form, i) != 0) {
            return find(wrong(s, form, i));
        }
        put(s, i, v);
        return 1;
    }

    public int get(int s, int form, int i) {
        if (!in(s, 0, 3) || !in(form, 0, 2)) {
            return Integer.MIN_VALUE;
        }
        if (wrong(s, form, i) != 0) {
            find(wrong(s, form, i));
            return Integer.MIN_VALUE;
        }
        return item(s, i);
    }

    public int copy(int s, int i, int t, int j, int n) {
        if (!in(s, 0, 3) || !in(t, 0, 3)) {
            return -2;
        }
        if (sheets[s] == null || sheets[t] == null) {
            return find(1);
        }
        if (form(s) != form(t)) {
            return find(4);
        }
        boolean below = i < 0 || j < 0 || n < 0;
        if (below || (long) i + n > size(s) || (long) j + n > size(t)) {
            return find(2);
        }
        int[] were = new int[n];
        Arrays.setAll(were, k -> item(s, i + k));
        for (int k = 0; k < n; k++) {
            put(t, j + k, were[k]);
        }
        return 1;
    }

    public int write(int land, int hour, int s) {
        if (!in(land, 0, 7) || !in(hour, 0, 671) || !in(s, 0, 3)) {
            return -2;
        }
        if (sheets[s] == null) {
            return find(1);
        }
        int k = 0;
        while (k < size(s) && hour + k <= 671) {
            put(s, k, war(hour + k, land));
            k++;
        }
        return k;
    }

    public int count(int what) {
        return switch (what) {
            case 0 -> roads().length;
            case 1 -> text.size();
            case 2 -> feasts.size();
            case 3 -> seen.size();
            case 4 -> Arrays.stream(sworn).sum();
            case 5 -> Arrays.stream(roads()).mapToInt(r -> r[2]).sum();
            case 6 -> breaks;
            case 7 -> mends;
            case 8 -> finding;
            default -> -2;
        };
    }

    public long digest() {
        List<Integer> told = new ArrayList<>();
        for (int what = 0; what <= 7; what++) {
            told.add(count(what));
        }
        told.add(fault());
        for (int r = 0; r < count(0); r++) {
            told.addAll(List.of(road(r, 0), road(r, 1), road(r, 2)));
        }
        for (int it = 0; it < 8; it++) {
            told.addAll(List.of(left(0, it), left(2, it), best(it), next(50, it, 0), next(50, it, 1),
                siege(it, 7, 99, 0), siege(it, 7, 99, 1), holds(it, 7, 99), season(7, it)));
        }
        for (int it = 1; it < 8; it++) {
            told.addAll(List.of(way(0, it, 0), way(0, it, 1), raid(0, it, 2, 0), home(it, 0, 30, -4),
                home(it, 0, 30, -3), home(it, 0, 30, -2), home(it, 0, 30, 1)));
        }
        for (int pair = 0; pair < 16; pair++) {
            told.add(strikes(30, 0, pair / 4, pair % 4));
        }
        told.addAll(List.of(unlike(0, 1), unlike(0, 2), unlike(0, 3), agree(0), agree(1), agree(2),
            middle(0), middle(1), middle(2), which()));
        long h = 17;
        for (int t : told) {
            h = 31 * h + t;
        }
        return h;
    }
}
