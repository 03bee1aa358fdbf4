import java.util.Arrays;

/** Feuds under a bishop's peace: who may fight whom, where and when. */
public final class BishopsPeace {
    public static final int NONE = -1, BAD = -2, NOT = -3, FULL = -4;

    private static final int LANDS = 8, PARISHES = 4, KINDS = 4;
    private static final int DAY_HOURS = 24, WEEK_DAYS = 7, WEEKS = 4;
    private static final int WEEK_HOURS = DAY_HOURS * WEEK_DAYS, DAYS = WEEK_DAYS * WEEKS;
    private static final int HOURS = DAY_HOURS * DAYS;
    private static final int MONDAY = 0, TUESDAY = 1, WEDNESDAY = 2;
    private static final int ANY = 0, HALF_SWORN = 2, PRIEST = 3;
    private static final int PARISH = 0, SWORN = 1, DANGER = 2;
    private static final int SHEETS = 4, BYTES = 0, SHORTS = 1, INTS = 2;
    private static final int NULL = 1, INDEX = 2, CAST = 3, STORE = 4, SIZE = 5;
    private static final int HOME_ABOVE = -4, HOME_BELOW = -3, HOME_HOURS = -2;
    private static final int LEAST_INT = 0x80000000;

    private final Roads roads;
    private final Bells bells;
    private final Peace peace;
    private final March march;
    private final Castle castle;
    private final Homeward homeward;
    private final Memory memory;
    private final Sheet[] sheets;
    private int finding;

    public BishopsPeace() {
        roads = new Roads();
        bells = new Bells();
        peace = new Peace(bells);
        march = new March(roads, peace);
        castle = new Castle(peace);
        homeward = new Homeward(roads, peace);
        memory = new Memory(peace);
        sheets = new Sheet[SHEETS];
        for (int s = 0; s < SHEETS; s++) {
            sheets[s] = new Sheet();
        }
        finding = 0;
    }

    // ---- roads, lands, bells

    public int type(int b) {
        if (!upTo(b, 255)) {
            return BAD;
        }
        return roads.append(b) ? roads.bytes : FULL;
    }

    public int wipe() {
        int had = roads.bytes;
        roads.shorten(0);
        return had;
    }

    public int undo() {
        if (roads.bytes == 0) {
            return NOT;
        }
        roads.shorten(roads.bytes - 1);
        return roads.bytes;
    }

    public int fault() {
        return roads.faultAt;
    }

    public int road(int road, int what) {
        if (!upTo(road, roads.number - 1) || !upTo(what, 2)) {
            return BAD;
        }
        return what == 2 ? roads.hours[road] : roads.end(road, what);
    }

    public int land(int land, int what, int v) {
        if (!isLand(land) || !upTo(v, Peace.mostOf(what))) {
            return BAD;
        }
        return peace.put(land, what, v);
    }

    public int bell(int parish, int what, int v) {
        if (!isParish(parish) || !upTo(what, 1) || !upTo(v, DAY_HOURS - 1)) {
            return BAD;
        }
        return bells.put(2 * parish + what, v);
    }

    public int read(int s) {
        if (!isSheet(s)) {
            return BAD;
        }
        if (sheets[s].lost) {
            return found(NULL);
        }
        Sheet sheet = sheets[s];
        int most = Math.min(sheet.length, 2 * PARISHES);
        int taken = 0;
        while (taken < most && upTo(sheet.items[taken], DAY_HOURS - 1)) {
            bells.put(taken, sheet.items[taken]);
            taken++;
        }
        return taken;
    }

    public int feast(int day) {
        if (!upTo(day, DAYS - 1)) {
            return BAD;
        }
        return peace.addFeast(day) ? peace.feastCount : FULL;
    }

    public int back() {
        return peace.dropFeast() ? peace.feastCount : NOT;
    }

    public int lent(int weeks) {
        if (!upTo(weeks, (1 << WEEKS) - 1)) {
            return BAD;
        }
        int was = peace.lentWeeks;
        peace.lentWeeks = weeks;
        return was;
    }

    // ---- hours

    public int war(int hour, int land) {
        if (!isHour(hour) || !isLand(land)) {
            return BAD;
        }
        return peace.isWar(hour, land) ? 1 : 0;
    }

    public int strikes(int hour, int land, int one, int other) {
        if (!isHour(hour) || !isLand(land) || !isKind(one) || !isKind(other)) {
            return BAD;
        }
        boolean may = one == ANY || one == HALF_SWORN && hour / DAY_HOURS % WEEK_DAYS == TUESDAY;
        return may && other != PRIEST && peace.isWar(hour, land) ? 1 : 0;
    }

    public int next(int hour, int land, int is) {
        if (!isHour(hour) || !isLand(land) || !upTo(is, 1)) {
            return BAD;
        }
        for (int h = hour; h < HOURS; h++) {
            if (peace.isWar(h, land) == (is == 1)) {
                return h;
            }
        }
        return NONE;
    }

    public int left(int week, int land) {
        if (!upTo(week, WEEKS - 1) || !isLand(land)) {
            return BAD;
        }
        return peace.warInWeek(week, land);
    }

    public int best(int land) {
        if (!isLand(land)) {
            return BAD;
        }
        int week = 0;
        for (int w = 1; w < WEEKS; w++) {
            if (peace.warInWeek(w, land) > peace.warInWeek(week, land)) {
                week = w;
            }
        }
        return week;
    }

    public int unlike(int a, int b) {
        if (!isParish(a) || !isParish(b)) {
            return BAD;
        }
        return bells.hoursUnlike(a, b);
    }

    public int way(int from, int to, int what) {
        if (!areTwoLands(from, to) || !upTo(what, 1)) {
            return BAD;
        }
        if (!roads.reaches(from, to)) {
            return NONE;
        }
        return what == 0 ? roads.shortest(from, to) : roads.nextLand(from, to);
    }

    // ---- raids, sieges

    public int raid(int from, int to, int strike, int hour) {
        if (!areTwoLands(from, to) || strike < 1 || strike > 9 || !isHour(hour)) {
            return BAD;
        }
        return roads.reaches(from, to) ? march.firstStart(from, to, strike, hour) : NONE;
    }

    public int set(int what, int v) {
        if (!upTo(what, 1) || !upTo(v, Castle.MOST_AN_HOUR)) {
            return BAD;
        }
        int was = what == 0 ? castle.breaks : castle.mends;
        if (what == 0) {
            castle.breaks = v;
        } else {
            castle.mends = v;
        }
        return was;
    }

    public int siege(int land, int hour, int stones, int what) {
        if (!isSiege(land, hour, stones) || !upTo(what, 1)) {
            return BAD;
        }
        int fell = castle.batter(land, hour, stones, castle.mends);
        return what == 0 ? fell : castle.stonesLeft;
    }

    public int holds(int land, int hour, int stones) {
        if (!isSiege(land, hour, stones)) {
            return BAD;
        }
        return castle.leastMends(land, hour, stones);
    }

    // ---- home, parishes

    public int home(int from, int to, int hour, int i) {
        if (!areTwoLands(from, to) || !isHour(hour) || i < HOME_ABOVE || i == NONE || i >= LANDS) {
            return BAD;
        }
        homeward.seek(from, to, hour);
        if (i == HOME_ABOVE) {
            return homeward.above();
        }
        if (i == HOME_BELOW) {
            return homeward.below();
        }
        return i == HOME_HOURS ? homeward.bestHours : homeward.landAt(i);
    }

    public int agree(int what) {
        if (!upTo(what, 2)) {
            return BAD;
        }
        int model = bells.commonest();
        return what == 0 ? PARISHES - bells.likeOnes(model) : bells.at(model, what - 1);
    }

    public int middle(int what) {
        if (!upTo(what, 2)) {
            return BAD;
        }
        int monday = bells.middleOf(0);
        int wednesday = bells.middleOf(1);
        if (what == 0) {
            return bells.change(0, monday) + bells.change(1, wednesday);
        }
        return what == 1 ? monday : wednesday;
    }

    // ---- seen, seasons

    public int seen(int hour, int land, int is) {
        if (!upTo(hour, DAY_HOURS - 1) || !isLand(land) || !upTo(is, 1)) {
            return BAD;
        }
        return memory.keep(hour, land, is == 1) ? memory.number : FULL;
    }

    public int forget() {
        int had = memory.number;
        memory.number = 0;
        return had;
    }

    public int which() {
        int days = 0;
        for (int day = 0; day < DAYS; day++) {
            if (memory.fits(day)) {
                days |= 1 << day;
            }
        }
        return days;
    }

    public int season(int seed, int land) {
        if (!isLand(land)) {
            return BAD;
        }
        int hours = 0;
        int lot = seed;
        for (int week = 0; week < WEEKS; week++) {
            lot = 1103515245 * lot + 12345;
            int feastDay = week * WEEK_DAYS + (lot >>> 16) % WEEK_DAYS;
            hours += peace.warInWeek(week, land) - peace.warInDay(feastDay, land);
        }
        return hours;
    }

    // ---- sheets

    public int sheet(int s, int form, int n) {
        if (!isSheet(s) || !isForm(form) || n > Sheet.MOST_ITEMS) {
            return BAD;
        }
        if (n < 0) {
            return found(SIZE);
        }
        sheets[s].renew(form, n);
        return n;
    }

    public int lose(int s) {
        if (!isSheet(s)) {
            return BAD;
        }
        if (sheets[s].lost) {
            return found(NULL);
        }
        sheets[s].lost = true;
        return sheets[s].length;
    }

    public int lay(int s, int form, int i, int v) {
        if (!isSheet(s) || !isForm(form)) {
            return BAD;
        }
        int wrong = wrongItem(s, form, i);
        if (wrong != 0) {
            return found(wrong);
        }
        sheets[s].put(i, v);
        return 1;
    }

    public int get(int s, int form, int i) {
        if (!isSheet(s) || !isForm(form)) {
            return LEAST_INT;
        }
        int wrong = wrongItem(s, form, i);
        if (wrong != 0) {
            finding = wrong;
            return LEAST_INT;
        }
        return sheets[s].items[i];
    }

    public int copy(int s, int i, int t, int j, int n) {
        if (!isSheet(s) || !isSheet(t)) {
            return BAD;
        }
        Sheet source = sheets[s];
        Sheet target = sheets[t];
        if (source.lost || target.lost) {
            return found(NULL);
        }
        if (source.form != target.form) {
            return found(STORE);
        }
        if (!source.holdsRun(i, n) || !target.holdsRun(j, n)) {
            return found(INDEX);
        }
        System.arraycopy(source.items, i, target.items, j, n);
        return 1;
    }

    public int write(int land, int hour, int s) {
        if (!isLand(land) || !isHour(hour) || !isSheet(s)) {
            return BAD;
        }
        if (sheets[s].lost) {
            return found(NULL);
        }
        int number = Math.min(sheets[s].length, HOURS - hour);
        for (int k = 0; k < number; k++) {
            sheets[s].put(k, peace.isWar(hour + k, land) ? 1 : 0);
        }
        return number;
    }

    public int count(int what) {
        switch (what) {
            case 0: return roads.number;
            case 1: return roads.bytes;
            case 2: return peace.feastCount;
            case 3: return memory.number;
            case 4: return peace.swornLands();
            case 5: return roads.allHours();
            case 6: return castle.breaks;
            case 7: return castle.mends;
            case 8: return finding;
            default: return BAD;
        }
    }

    public long digest() {
        long h = 17;
        for (int what = 0; what <= 7; what++) {
            h = 31 * h + count(what);
        }
        h = 31 * h + fault();
        h = digestOfRoads(h);
        h = digestOfLands(h);
        h = digestOfJourneys(h);
        h = digestOfKinds(h);
        return digestOfParishes(h);
    }

    private long digestOfRoads(long before) {
        long h = before;
        for (int road = 0; road < roads.number; road++) {
            for (int what = 0; what <= 2; what++) {
                h = 31 * h + road(road, what);
            }
        }
        return h;
    }

    private long digestOfLands(long before) {
        long h = before;
        for (int land = 0; land < LANDS; land++) {
            h = 31 * h + left(0, land);
            h = 31 * h + left(2, land);
            h = 31 * h + best(land);
            h = 31 * h + next(50, land, 0);
            h = 31 * h + next(50, land, 1);
            h = 31 * h + siege(land, 7, 99, 0);
            h = 31 * h + siege(land, 7, 99, 1);
            h = 31 * h + holds(land, 7, 99);
            h = 31 * h + season(7, land);
        }
        return h;
    }

    private long digestOfJourneys(long before) {
        long h = before;
        for (int land = 1; land < LANDS; land++) {
            h = 31 * h + way(0, land, 0);
            h = 31 * h + way(0, land, 1);
            h = 31 * h + raid(0, land, 2, 0);
            for (int i = HOME_ABOVE; i <= HOME_HOURS; i++) {
                h = 31 * h + home(land, 0, 30, i);
            }
            h = 31 * h + home(land, 0, 30, 1);
        }
        return h;
    }

    private long digestOfKinds(long before) {
        long h = before;
        for (int one = 0; one < KINDS; one++) {
            for (int other = 0; other < KINDS; other++) {
                h = 31 * h + strikes(30, 0, one, other);
            }
        }
        return h;
    }

    private long digestOfParishes(long before) {
        long h = before;
        for (int parish = 1; parish < PARISHES; parish++) {
            h = 31 * h + unlike(0, parish);
        }
        for (int what = 0; what <= 2; what++) {
            h = 31 * h + agree(what);
        }
        for (int what = 0; what <= 2; what++) {
            h = 31 * h + middle(what);
        }
        return 31 * h + which();
    }

    private int found(int number) {
        finding = number;
        return -10 - number;
    }

    /** The FINDING that item i, treated as of a FORM, leads to; 0 if none. */
    private int wrongItem(int s, int form, int i) {
        if (sheets[s].lost) {
            return NULL;
        }
        if (sheets[s].form != form) {
            return CAST;
        }
        return upTo(i, sheets[s].length - 1) ? 0 : INDEX;
    }

    private static boolean upTo(int v, int most) {
        return v >= 0 && v <= most;
    }

    private static boolean isLand(int land) {
        return upTo(land, LANDS - 1);
    }

    private static boolean areTwoLands(int a, int b) {
        return isLand(a) && isLand(b) && a != b;
    }

    private static boolean isParish(int parish) {
        return upTo(parish, PARISHES - 1);
    }

    private static boolean isKind(int kind) {
        return upTo(kind, KINDS - 1);
    }

    private static boolean isHour(int hour) {
        return upTo(hour, HOURS - 1);
    }

    private static boolean isSheet(int s) {
        return upTo(s, SHEETS - 1);
    }

    private static boolean isForm(int form) {
        return upTo(form, INTS);
    }

    private static boolean isSiege(int land, int hour, int stones) {
        return isLand(land) && isHour(hour) && stones >= 1 && stones <= Castle.MOST_STONES;
    }

    /** The text, the roads that it tells, and the shortest ways by them. */
    private static final class Roads {
        private static final int MOST_BYTES = 47, MOST_ROADS = 12, ROAD_BYTES = 4;
        // Beyond every way (7 roads of 9 hours), and small enough to be added to itself.
        private static final int FAR = 1000;

        final int[] text = new int[MOST_BYTES];
        final int[] one = new int[MOST_ROADS];
        final int[] other = new int[MOST_ROADS];
        final int[] hours = new int[MOST_ROADS];
        final int[] ways = new int[LANDS * LANDS];
        int bytes, number, faultAt;

        Roads() {
            bytes = 0;
            number = 0;
            faultAt = NONE;
            Arrays.fill(ways, FAR);
        }

        boolean append(int b) {
            if (bytes >= MOST_BYTES) {
                return false;
            }
            text[bytes] = b;
            bytes++;
            settle();
            return true;
        }

        void shorten(int length) {
            bytes = length;
            settle();
        }

        private void settle() {
            faultAt = firstFault();
            number = faultAt == NONE ? (bytes + 1) / ROAD_BYTES : 0;
            for (int r = 0; r < number; r++) {
                one[r] = text[ROAD_BYTES * r] - 'a';
                other[r] = text[ROAD_BYTES * r + 1] - 'a';
                hours[r] = text[ROAD_BYTES * r + 2] - '0';
            }
            measure();
        }

        // A thirteenth road needs no test: twelve take all 47 bytes.
        private int firstFault() {
            for (int p = 0; p < bytes; p++) {
                if (!goesOn(p)) {
                    return p;
                }
            }
            return bytes == 0 || bytes % ROAD_BYTES == ROAD_BYTES - 1 ? NONE : bytes;
        }

        private boolean goesOn(int p) {
            int b = text[p];
            switch (p % ROAD_BYTES) {
                case 0: return b >= 'a' && b <= 'h';
                case 1: return b >= 'a' && b <= 'h' && b != text[p - 1];
                case 2: return b >= '1' && b <= '9';
                default: return b == ';';
            }
        }

        private void measure() {
            Arrays.fill(ways, FAR);
            for (int land = 0; land < LANDS; land++) {
                ways[land * LANDS + land] = 0;
            }
            for (int r = 0; r < number; r++) {
                shortenWay(one[r], other[r], hours[r]);
                shortenWay(other[r], one[r], hours[r]);
            }
            for (int by = 0; number > 0 && by < LANDS; by++) {
                for (int from = 0; from < LANDS; from++) {
                    for (int to = 0; to < LANDS; to++) {
                        shortenWay(from, to, shortest(from, by) + shortest(by, to));
                    }
                }
            }
        }

        private void shortenWay(int from, int to, int length) {
            ways[from * LANDS + to] = Math.min(ways[from * LANDS + to], length);
        }

        int shortest(int from, int to) {
            return ways[from * LANDS + to];
        }

        boolean reaches(int from, int to) {
            return shortest(from, to) < FAR;
        }

        int end(int r, int which) {
            return which == 0 ? one[r] : other[r];
        }

        /** The land to which road r leads from a land; NONE if it does not touch it. */
        int across(int r, int land) {
            if (one[r] == land) {
                return other[r];
            }
            return other[r] == land ? one[r] : NONE;
        }

        int nextLand(int from, int to) {
            int least = NONE;
            for (int r = 0; r < number; r++) {
                int land = across(r, from);
                boolean onWay = land != NONE && hours[r] + shortest(land, to) == shortest(from, to);
                if (onWay && (least == NONE || land < least)) {
                    least = land;
                }
            }
            return least;
        }

        int allHours() {
            int sum = 0;
            for (int r = 0; r < number; r++) {
                sum += hours[r];
            }
            return sum;
        }
    }

    /** Both bells of every parish, MONDAY's ahead of WEDNESDAY's. */
    private static final class Bells {
        final int[] rung = new int[2 * PARISHES];

        Bells() {
            for (int parish = 0; parish < PARISHES; parish++) {
                rung[2 * parish] = 6;
                rung[2 * parish + 1] = 18;
            }
        }

        int at(int parish, int what) {
            return rung[2 * parish + what];
        }

        int put(int place, int v) {
            int was = rung[place];
            rung[place] = v;
            return was;
        }

        // Every war holds all TUESDAY, so two wars differ by nothing but their ends.
        int hoursUnlike(int a, int b) {
            return Math.abs(at(a, 0) - at(b, 0)) + Math.abs(at(a, 1) - at(b, 1));
        }

        int likeOnes(int parish) {
            int like = 0;
            for (int p = 0; p < PARISHES; p++) {
                if (hoursUnlike(p, parish) == 0) {
                    like++;
                }
            }
            return like;
        }

        /** A parish whose bells most parishes have; of like ones with the least bells. */
        int commonest() {
            int model = 0;
            for (int p = 1; p < PARISHES; p++) {
                int more = likeOnes(p) - likeOnes(model);
                if (more > 0 || more == 0 && rank(p) < rank(model)) {
                    model = p;
                }
            }
            return model;
        }

        private int rank(int parish) {
            return at(parish, 0) * DAY_HOURS + at(parish, 1);
        }

        int middleOf(int what) {
            int least = 0;
            for (int v = 1; v < DAY_HOURS; v++) {
                if (change(what, v) < change(what, least)) {
                    least = v;
                }
            }
            return least;
        }

        int change(int what, int v) {
            int sum = 0;
            for (int p = 0; p < PARISHES; p++) {
                sum += Math.abs(at(p, what) - v);
            }
            return sum;
        }
    }

    /** The lands, the feasts and LENT: where and when there is war. */
    private static final class Peace {
        private static final int FACTS = 3, MOST_DANGER = 16, MOST_FEASTS = 8;

        final Bells bells;
        final int[] facts = new int[LANDS * FACTS];
        final int[] feasts = new int[MOST_FEASTS];
        int feastCount, feastDays, lentWeeks;

        Peace(Bells bells) {
            this.bells = bells;
            for (int land = 0; land < LANDS; land++) {
                facts[land * FACTS + DANGER] = 4;
            }
            feastCount = 0;
            feastDays = 0;
            lentWeeks = 0;
        }

        /** The most that a fact may be; NONE, so that nothing may, if there is no such fact. */
        static int mostOf(int what) {
            switch (what) {
                case PARISH: return PARISHES - 1;
                case SWORN: return 1;
                case DANGER: return MOST_DANGER;
                default: return NONE;
            }
        }

        int at(int land, int what) {
            return facts[land * FACTS + what];
        }

        int put(int land, int what, int v) {
            int was = at(land, what);
            facts[land * FACTS + what] = v;
            return was;
        }

        int swornLands() {
            int sworn = 0;
            for (int land = 0; land < LANDS; land++) {
                sworn += at(land, SWORN);
            }
            return sworn;
        }

        boolean addFeast(int day) {
            if (feastCount >= MOST_FEASTS) {
                return false;
            }
            feasts[feastCount] = day;
            feastCount++;
            gatherFeasts();
            return true;
        }

        boolean dropFeast() {
            if (feastCount == 0) {
                return false;
            }
            feastCount--;
            gatherFeasts();
            return true;
        }

        // Anew each time: a DAY may be a FEAST twice, and stays one when one of them is undone.
        private void gatherFeasts() {
            feastDays = 0;
            for (int f = 0; f < feastCount; f++) {
                feastDays |= 1 << feasts[f];
            }
        }

        private boolean isOpenDay(int day, int land) {
            boolean lent = (lentWeeks >> day / WEEK_DAYS & 1) != 0;
            boolean feast = (feastDays >> day & 1) != 0;
            return !lent && !feast && facts[land * FACTS + SWORN] == 0;
        }

        private int bellOf(int land, int what) {
            return bells.rung[2 * facts[land * FACTS + PARISH] + what];
        }

        /** Whether there is war; beyond the last hour there is none. */
        boolean isWar(int hour, int land) {
            if (hour < 0 || hour >= HOURS || !isOpenDay(hour / DAY_HOURS, land)) {
                return false;
            }
            int inWeek = hour % WEEK_HOURS;
            return inWeek >= bellOf(land, 0) && inWeek < WEDNESDAY * DAY_HOURS + bellOf(land, 1);
        }

        int warInDay(int day, int land) {
            if (!isOpenDay(day, land)) {
                return 0;
            }
            switch (day % WEEK_DAYS) {
                case MONDAY: return DAY_HOURS - bellOf(land, 0);
                case TUESDAY: return DAY_HOURS;
                case WEDNESDAY: return bellOf(land, 1);
                default: return 0;
            }
        }

        int warInWeek(int week, int land) {
            int hours = 0;
            for (int d = 0; d < WEEK_DAYS; d++) {
                hours += warInDay(week * WEEK_DAYS + d, land);
            }
            return hours;
        }
    }

    /** A raid as a row of needs: war in a land, so many hours behind the start. */
    private static final class March {
        // Seven roads there, nine hours of striking at most, seven roads back.
        private static final int MOST_NEEDS = 24;

        final Roads roads;
        final Peace peace;
        final int[] lands = new int[MOST_NEEDS];
        final int[] behind = new int[MOST_NEEDS];
        int needs;

        March(Roads roads, Peace peace) {
            this.roads = roads;
            this.peace = peace;
            needs = 0;
        }

        int firstStart(int from, int to, int strike, int hour) {
            needs = 0;
            int there = roads.shortest(from, to);
            goBetween(from, to, 0);
            for (int k = 0; k < strike; k++) {
                need(to, there + k);
            }
            goBetween(to, from, there + strike);
            int whole = there + strike + there;
            for (int start = hour; start + whole < HOURS; start++) {
                if (isAllowed(start)) {
                    return start;
                }
            }
            return NONE;
        }

        private void goBetween(int from, int to, int since) {
            int whole = roads.shortest(from, to);
            int land = roads.nextLand(from, to);
            for (int step = 0; step < LANDS && land != to && land != NONE; step++) {
                need(land, since + whole - roads.shortest(land, to));
                land = roads.nextLand(land, to);
            }
        }

        private void need(int land, int hours) {
            if (needs < MOST_NEEDS) {
                lands[needs] = land;
                behind[needs] = hours;
                needs++;
            }
        }

        private boolean isAllowed(int start) {
            for (int k = 0; k < needs; k++) {
                if (!peace.isWar(start + behind[k], lands[k])) {
                    return false;
                }
            }
            return true;
        }
    }

    /** A castle that is battered in war and mended in peace. */
    private static final class Castle {
        private static final int MOST_AN_HOUR = 99, MOST_STONES = 999;
        // As many as bring the hundred that MENDS may be down to one.
        private static final int HALVINGS = 7;

        final Peace peace;
        int breaks, mends, stonesLeft;

        Castle(Peace peace) {
            this.peace = peace;
            breaks = 5;
            mends = 2;
            stonesLeft = 0;
        }

        /** The hour behind which no stone is left, or NONE; stonesLeft tells how many are. */
        int batter(int land, int hour, int stones, int mending) {
            int now = stones;
            for (int h = hour; h < HOURS; h++) {
                now = peace.isWar(h, land) ? now - breaks : Math.min(stones, now + mending);
                if (now <= 0) {
                    stonesLeft = 0;
                    return h;
                }
            }
            stonesLeft = now;
            return NONE;
        }

        // Who mends more never has fewer stones, so halving finds the least.
        int leastMends(int land, int hour, int stones) {
            if (batter(land, hour, stones, MOST_AN_HOUR) != NONE) {
                return NONE;
            }
            int low = 0;
            int high = MOST_AN_HOUR;
            for (int round = 0; round < HALVINGS && low < high; round++) {
                int half = (low + high) / 2;
                if (batter(land, hour, stones, half) == NONE) {
                    high = half;
                } else {
                    low = half + 1;
                }
            }
            return low;
        }
    }

    /** The safest way home, looked for along every row of roads. */
    private static final class Homeward {
        private static final int SIXTEENTHS = 16;
        // Sixteenths of sixteenths, six times over: six lands lie between at most, so every division is even.
        private static final int CHANCE_BITS = 24;

        final Roads roads;
        final Peace peace;
        final int[] row = new int[LANDS];
        final int[] bestRow = new int[LANDS];
        int goal, start, been;
        int bestSteps, bestHours, bestChance;

        Homeward(Roads roads, Peace peace) {
            this.roads = roads;
            this.peace = peace;
            bestSteps = NONE;
            bestHours = NONE;
            bestChance = 0;
        }

        void seek(int from, int to, int hour) {
            goal = to;
            start = hour;
            been = 1 << from;
            row[0] = from;
            bestSteps = NONE;
            bestHours = NONE;
            bestChance = 0;
            walk(0, 0, 1 << CHANCE_BITS);
        }

        private void walk(int steps, int hours, int chance) {
            if (row[steps] == goal) {
                arrive(steps, hours, chance);
                return;
            }
            for (int r = 0; steps < LANDS - 1 && r < roads.number; r++) {
                int land = roads.across(r, row[steps]);
                if (land != NONE && (been >> land & 1) == 0) {
                    int then = hours + roads.hours[r];
                    boolean perhapsCaught = land != goal && peace.isWar(start + then, land);
                    row[steps + 1] = land;
                    been |= 1 << land;
                    walk(steps + 1, then, perhapsCaught ? chance / SIXTEENTHS * freeOf(land) : chance);
                    been &= ~(1 << land);
                }
            }
        }

        private int freeOf(int land) {
            return SIXTEENTHS - peace.at(land, DANGER);
        }

        private void arrive(int steps, int hours, int chance) {
            if (bestSteps != NONE && !isBetter(hours, chance)) {
                return;
            }
            bestSteps = steps;
            bestHours = hours;
            bestChance = chance;
            System.arraycopy(row, 0, bestRow, 0, steps + 1);
        }

        private boolean isBetter(int hours, int chance) {
            if (chance != bestChance) {
                return chance > bestChance;
            }
            if (hours != bestHours) {
                return hours < bestHours;
            }
            // Both rows end with the goal and have it nowhere else: they differ ahead of it or not at all.
            for (int k = 0; k <= bestSteps; k++) {
                if (row[k] != bestRow[k]) {
                    return row[k] < bestRow[k];
                }
            }
            return false;
        }

        private int commonBits() {
            int bits = 0;
            while (bits < CHANCE_BITS && (bestChance >> bits & 1) == 0) {
                bits++;
            }
            return bits;
        }

        int above() {
            return bestChance >> commonBits();
        }

        int below() {
            return 1 << CHANCE_BITS - commonBits();
        }

        int landAt(int i) {
            return i >= 0 && i <= bestSteps ? bestRow[i] : NONE;
        }
    }

    /** What was seen on one unknown day. */
    private static final class Memory {
        private static final int MOST_SEEN = 6;

        final Peace peace;
        final int[] hours = new int[MOST_SEEN];
        final int[] lands = new int[MOST_SEEN];
        final boolean[] wars = new boolean[MOST_SEEN];
        int number;

        Memory(Peace peace) {
            this.peace = peace;
            number = 0;
        }

        boolean keep(int hour, int land, boolean isWar) {
            if (number >= MOST_SEEN) {
                return false;
            }
            hours[number] = hour;
            lands[number] = land;
            wars[number] = isWar;
            number++;
            return true;
        }

        boolean fits(int day) {
            for (int k = 0; k < number; k++) {
                if (peace.isWar(day * DAY_HOURS + hours[k], lands[k]) != wars[k]) {
                    return false;
                }
            }
            return true;
        }
    }

    /** A row of items of a form; its room is made once and used again. */
    private static final class Sheet {
        private static final int MOST_ITEMS = 60;

        final int[] items = new int[MOST_ITEMS];
        int form, length;
        boolean lost;

        Sheet() {
            form = BYTES;
            length = 0;
            lost = true;
        }

        void renew(int newForm, int n) {
            Arrays.fill(items, 0);
            form = newForm;
            length = n;
            lost = false;
        }

        void put(int i, int v) {
            if (form == BYTES) {
                items[i] = (byte) v;
            } else {
                items[i] = form == SHORTS ? (short) v : v;
            }
        }

        /** Whether n items from i on are there; told without a sum that could wrap. */
        boolean holdsRun(int i, int n) {
            return i >= 0 && n >= 0 && i <= length && n <= length - i;
        }
    }
}
