/**
 * A plain of corn that hulls sail, with the reaper coming on behind them.
 * What each call answers is told in ../shared/DOC.md, promise by promise.
 */
public final class WheatSea {
    public static final int NONE = -1, UNKNOWN = -101, OUTSIDE = -102, STATE = -103, FULL = -104;

    private static final int CELLS = 12;
    private static final int ROW = 4;
    private static final int WAYS = 4;
    private static final int NO_WIND = 4;
    private static final int HULLS = 3;
    private static final int KINDS = 5;
    private static final int DEEPEST = 9;
    private static final int SLOWEST_REAP = 9;
    private static final int LAST_HOUR = 999;
    private static final int LONGEST_PASS = 30;
    private static final int PAGE = 18;
    private static final int LAST_CODE = 126;
    private static final int SIGHTINGS = 6;
    private static final int LAST_SEEN_HOUR = 40;
    private static final int MOST_TIMES = 20;
    private static final int COUNTS = 9;

    /** Every cell as a bit. */
    private static final int ANYWHERE = (1 << CELLS) - 1;

    /** A plain's text, with the least digit at each place that holds a digit. */
    private static final String SHAPE = "0000,0000,0000;1";

    private final int[] page = new int[PAGE];
    private int letters;
    private int plainsRead;

    private final Sea sea;
    /** The same corn under another wind or reaper, for what would be. */
    private final Sea would;
    private final Hull[] hulls = new Hull[HULLS];
    private int hullCount;
    private int hour;

    private final Seen seen = new Seen();
    private final Image kept = new Image();
    private final Chart chart = new Chart();
    private final Homecoming homecoming = new Homecoming();
    private final June june = new June();

    public WheatSea() {
        int[] high = new int[CELLS];
        sea = new Sea(high);
        would = new Sea(high);
    }

    // ---- the plain

    public int letter(int code) {
        if (code < 1 || code > LAST_CODE) {
            return OUTSIDE;
        }
        if (letters < 0 || letters >= page.length) {
            return FULL;
        }
        page[letters] = code;
        letters++;
        return letters;
    }

    public int blank() {
        int had = letters;
        letters = 0;
        return had;
    }

    public int fault() {
        for (int place = 0; place < letters && place < page.length; place++) {
            if (!fits(place, page[place])) {
                return place;
            }
        }
        return letters;
    }

    public int plain() {
        if (letters != SHAPE.length() || fault() != letters) {
            return STATE;
        }
        forgetAll();
        int together = 0;
        for (int cell = 0; cell < CELLS; cell++) {
            int high = digitAt(cell + cell / ROW);
            sea.sow(cell, high);
            together += high;
        }
        sea.reap = digitAt(SHAPE.length() - 1);
        plainsRead++;
        letters = 0;
        return together;
    }

    public int cell(int cell, int what) {
        if (!isThere(cell)) {
            return UNKNOWN;
        }
        switch (what) {
            case 0:
                return sea.highAt(cell, hour);
            case 1:
                return sea.highAt(cell, 0);
            case 2:
                return sea.cutHour(cell);
            case 3:
                return hullsOn(cell);
            default:
                return OUTSIDE;
        }
    }

    public int wind(int wind) {
        if (wind < 0 || wind > NO_WIND) {
            return OUTSIDE;
        }
        if (!hasPlain()) {
            return STATE;
        }
        int was = sea.wind;
        sea.wind = wind;
        return was;
    }

    public int pass(int hours) {
        if (hours < 1 || hours > LONGEST_PASS) {
            return OUTSIDE;
        }
        if (!hasPlain() || hour + hours > LAST_HOUR) {
            return STATE;
        }
        hour += hours;
        return hour;
    }

    // ---- hulls

    public int hull(int kind, int draught, int cell) {
        if (kind < 0 || kind >= KINDS || draught < 1 || draught > DEEPEST) {
            return OUTSIDE;
        }
        if (!isThere(cell)) {
            return UNKNOWN;
        }
        if (hullCount < 0 || hullCount >= hulls.length) {
            return FULL;
        }
        hulls[hullCount] = built(kind, draught, cell);
        hullCount++;
        return hullCount - 1;
    }

    public int about(int hull, int what) {
        Hull one = hullNumbered(hull);
        if (one == null) {
            return UNKNOWN;
        }
        switch (what) {
            case 0:
                return one.kind();
            case 1:
                return one.draught;
            case 2:
                return one.cell;
            case 3:
                return sea.floats(one, one.cell, hour) ? 0 : 1;
            case 4:
                return one.sailed;
            case 10:
            case 11:
            case 12:
            case 13:
                return sea.hoursToSail(one, one.cell, what - 10, hour);
            default:
                return OUTSIDE;
        }
    }

    public int as(int hull, int kind) {
        Hull one = hullNumbered(hull);
        if (one == null) {
            return UNKNOWN;
        }
        if (kind < 0 || kind >= KINDS) {
            return OUTSIDE;
        }
        return isKind(one, kind) ? hull : NONE;
    }

    public int sail(int hull, int way) {
        Hull one = hullNumbered(hull);
        if (one == null) {
            return UNKNOWN;
        }
        if (way < 0 || way >= WAYS) {
            return OUTSIDE;
        }
        int hours = sea.hoursToSail(one, one.cell, way, hour);
        if (hours == NONE || hour + hours > LAST_HOUR) {
            return STATE;
        }
        one.cell = beside(one.cell, way);
        one.sailed += hours;
        hour += hours;
        return hour;
    }

    // ---- what would be

    public int voyage(int hull, int cell, int what) {
        Hull one = hullNumbered(hull);
        if (one == null || !isThere(cell)) {
            return UNKNOWN;
        }
        if (what < 0 || what > 1) {
            return OUTSIDE;
        }
        chart.plot(sea, one, one.cell, hour);
        return what == 0 ? chart.hourAt(cell) : chart.firstWayTo(cell);
    }

    public int latest(int hull, int cell) {
        Hull one = hullNumbered(hull);
        if (one == null || !isThere(cell)) {
            return UNKNOWN;
        }
        would.wind = sea.wind;
        for (int reap = 1; reap <= SLOWEST_REAP; reap++) {
            would.reap = reap;
            chart.plot(would, one, one.cell, hour);
            if (chart.hourAt(cell) != NONE) {
                return reap;
            }
        }
        return NONE;
    }

    public int home(int cell, int what) {
        if (!isThere(cell)) {
            return UNKNOWN;
        }
        boolean asksForHull = what >= 10 && what < 10 + HULLS;
        if (what != 0 && what != 1 && !asksForHull) {
            return OUTSIDE;
        }
        homecoming.find(sea, chart, hulls, cell, hour);
        if (asksForHull) {
            return what - 10 < hullCount ? homecoming.hullInPlace(what - 10) : NONE;
        }
        return what == 0 ? homecoming.many : homecoming.hour;
    }

    public int bestWind(int hull, int cell) {
        Hull one = hullNumbered(hull);
        if (one == null || !isThere(cell)) {
            return UNKNOWN;
        }
        would.reap = sea.reap;
        int best = NONE;
        int soonest = NONE;
        for (int wind = 0; wind <= NO_WIND; wind++) {
            would.wind = wind;
            chart.plot(would, one, one.cell, hour);
            int there = chart.hourAt(cell);
            if (there != NONE && (best == NONE || there < soonest)) {
                best = wind;
                soonest = there;
            }
        }
        return best;
    }

    // ---- what was seen

    public int see(int hull, int cell, int hour) {
        if (hullNumbered(hull) == null || !isThere(cell)) {
            return UNKNOWN;
        }
        if (hour < 0 || hour > LAST_SEEN_HOUR) {
            return OUTSIDE;
        }
        return seen.add(hull, cell, hour) ? seen.many : FULL;
    }

    public int forget() {
        int was = seen.many;
        seen.many = 0;
        return was;
    }

    public int start(int hull) {
        Hull one = hullNumbered(hull);
        if (one == null) {
            return UNKNOWN;
        }
        return seen.startsOf(sea, one, hull);
    }

    public int junes(int times, int seed, int what) {
        if (times < 1 || times > MOST_TIMES || seed < 0 || what < 0 || what > 3) {
            return OUTSIDE;
        }
        if (!hasPlain()) {
            return STATE;
        }
        would.reap = sea.reap;
        june.begin(hulls, hour, seed);
        june.run(would, hulls, times);
        switch (what) {
            case 0:
                return june.failed;
            case 1:
                return june.stranded(would, hulls);
            case 2:
                return june.hour;
            default:
                return june.seed;
        }
    }

    // ---- what is told of all

    public int image() {
        if (!hasPlain()) {
            return STATE;
        }
        kept.keep(hulls, hullCount);
        kept.hour = hour;
        kept.wind = sea.wind;
        kept.seen.become(seen);
        return hour;
    }

    public int restore() {
        if (!kept.there) {
            return STATE;
        }
        kept.giveBack(hulls);
        hullCount = kept.hullCount;
        hour = kept.hour;
        sea.wind = kept.wind;
        seen.become(kept.seen);
        return hour;
    }

    public int count(int what) {
        switch (what) {
            case 0:
                return sea.reap;
            case 1:
                return cutCells();
            case 2:
                return hullCount;
            case 3:
                return strandedHulls();
            case 4:
                return hour;
            case 5:
                return sea.wind;
            case 6:
                return seen.many;
            case 7:
                return letters;
            case 8:
                return plainsRead;
            default:
                return OUTSIDE;
        }
    }

    public long digest() {
        long h = 863;
        if (hasPlain()) {
            h = digestOfCells(h);
        }
        for (int number = 0; number < hulls.length; number++) {
            Hull one = hulls[number];
            if (one != null) {
                h = digestOfHull(h, one, number);
            }
        }
        for (int place = 0; place < letters && place < page.length; place++) {
            h = 31 * h + page[place];
        }
        for (int what = 0; what < COUNTS; what++) {
            h = 31 * h + count(what);
        }
        return h;
    }

    // ---- helpers

    private long digestOfCells(long before) {
        long h = before;
        for (int cell = 0; cell < CELLS; cell++) {
            for (int what = 0; what <= 3; what++) {
                h = 31 * h + cell(cell, what);
            }
        }
        return h;
    }

    private long digestOfHull(long before, Hull one, int number) {
        long h = before;
        for (int what = 0; what <= 4; what++) {
            h = 31 * h + about(number, what);
        }
        for (int what = 10; what <= 13; what++) {
            h = 31 * h + about(number, what);
        }
        // One chart serves all cells, as voyage() would plot the same one for each.
        chart.plot(sea, one, one.cell, hour);
        for (int cell = 0; cell < CELLS; cell++) {
            h = 31 * h + chart.hourAt(cell);
        }
        return 31 * h + seen.startsOf(sea, one, number);
    }

    private void forgetAll() {
        for (int number = 0; number < hulls.length; number++) {
            hulls[number] = null;
        }
        hullCount = 0;
        hour = 0;
        sea.wind = NO_WIND;
        seen.many = 0;
        kept.there = false;
    }

    private boolean hasPlain() {
        return sea.reap > 0;
    }

    private boolean isThere(int cell) {
        return hasPlain() && isCell(cell);
    }

    private Hull hullNumbered(int number) {
        if (number < 0 || number >= hullCount || number >= hulls.length) {
            return null;
        }
        return hulls[number];
    }

    private int digitAt(int place) {
        return place >= 0 && place < page.length ? page[place] - '0' : 0;
    }

    private int hullsOn(int cell) {
        int many = 0;
        for (int number = 0; number < hulls.length; number++) {
            Hull one = hulls[number];
            if (one != null && one.cell == cell) {
                many++;
            }
        }
        return many;
    }

    private int strandedHulls() {
        int many = 0;
        for (int number = 0; number < hulls.length; number++) {
            Hull one = hulls[number];
            if (one != null && !sea.floats(one, one.cell, hour)) {
                many++;
            }
        }
        return many;
    }

    private int cutCells() {
        if (!hasPlain()) {
            return 0;
        }
        int many = 0;
        for (int cell = 0; cell < CELLS; cell++) {
            if (hour >= sea.cutHour(cell)) {
                many++;
            }
        }
        return many;
    }

    private static boolean fits(int place, int code) {
        if (place < 0 || place >= SHAPE.length()) {
            return false;
        }
        char due = SHAPE.charAt(place);
        if (due == '0' || due == '1') {
            return code >= due && code <= '9';
        }
        return code == due;
    }

    private static boolean isCell(int cell) {
        return cell >= 0 && cell < CELLS;
    }

    private static int beside(int cell, int way) {
        if (!isCell(cell)) {
            return NONE;
        }
        switch (way) {
            case 0:
                return cell % ROW < ROW - 1 ? cell + 1 : NONE;
            case 1:
                return cell + ROW < CELLS ? cell + ROW : NONE;
            case 2:
                return cell % ROW > 0 ? cell - 1 : NONE;
            case 3:
                return cell - ROW >= 0 ? cell - ROW : NONE;
            default:
                return NONE;
        }
    }

    private static Hull built(int kind, int draught, int cell) {
        switch (kind) {
            case 1:
                return new Sloop(draught, cell);
            case 2:
                return new Galley(draught, cell);
            case 3:
                return new Sled(draught, cell);
            case 4:
                return new Cutter(draught, cell);
            default:
                return new Hull(draught, cell);
        }
    }

    private static boolean isKind(Hull one, int kind) {
        switch (kind) {
            case 0:
                return one != null;
            case 1:
                return one instanceof Sloop;
            case 2:
                return one instanceof Galley;
            case 3:
                return one instanceof Sled;
            case 4:
                return one instanceof Cutter;
            default:
                return false;
        }
    }

    // ---- kinds of hulls

    private static class Hull {
        final int draught;
        int cell;
        int sailed;

        Hull(int draught, int cell) {
            this.draught = draught;
            this.cell = cell;
        }

        int kind() {
            return 0;
        }

        /** How high the corn must be for it to float. */
        int cornNeeded() {
            return draught;
        }

        int hoursWith() {
            return 1;
        }

        int hoursAcross() {
            return 2;
        }

        int hoursBecalmed() {
            return 3;
        }

        int hoursAgainst() {
            return NONE;
        }

        int hoursFor(int way, int wind) {
            if (wind == NO_WIND) {
                return hoursBecalmed();
            }
            if (way == wind) {
                return hoursWith();
            }
            // The ways go round by quarters, so the one against it is two off.
            if (way == wind + 2 || way == wind - 2) {
                return hoursAgainst();
            }
            return hoursAcross();
        }
    }

    private static class Sloop extends Hull {
        Sloop(int draught, int cell) {
            super(draught, cell);
        }

        int kind() {
            return 1;
        }

        int cornNeeded() {
            return draught - 1;
        }
    }

    private static final class Galley extends Hull {
        Galley(int draught, int cell) {
            super(draught, cell);
        }

        int kind() {
            return 2;
        }

        int hoursAgainst() {
            return 4;
        }
    }

    private static final class Sled extends Hull {
        Sled(int draught, int cell) {
            super(draught, cell);
        }

        int kind() {
            return 3;
        }

        int cornNeeded() {
            return 0;
        }

        int hoursWith() {
            return 2;
        }

        int hoursAcross() {
            return 3;
        }

        int hoursBecalmed() {
            return 4;
        }
    }

    private static final class Cutter extends Sloop {
        Cutter(int draught, int cell) {
            super(draught, cell);
        }

        int kind() {
            return 4;
        }

        int hoursBecalmed() {
            return 2;
        }

        int hoursAgainst() {
            return 3;
        }
    }

    // ---- the sea

    /** The corn under one reaper and one wind. */
    private static final class Sea {
        private final int[] high;
        /** 0 while no plain was read. */
        int reap;
        int wind = NO_WIND;

        Sea(int[] high) {
            this.high = high;
        }

        void sow(int cell, int corn) {
            if (cell >= 0 && cell < high.length) {
                high[cell] = corn;
            }
        }

        int cutHour(int cell) {
            return reap * (cell + 1);
        }

        int highAt(int cell, int hour) {
            if (cell < 0 || cell >= high.length || hour >= reap * (cell + 1)) {
                return 0;
            }
            return high[cell];
        }

        boolean floats(Hull one, int cell, int hour) {
            return one != null && highAt(cell, hour) >= one.cornNeeded();
        }

        int hoursToSail(Hull one, int cell, int way, int hour) {
            int there = beside(cell, way);
            if (one == null || there == NONE || !floats(one, cell, hour)) {
                return NONE;
            }
            int hours = one.hoursFor(way, wind);
            if (hours == NONE || !floats(one, there, hour + hours)) {
                return NONE;
            }
            return hours;
        }
    }

    // ---- voyages

    /**
     * When and how one hull comes to every cell soonest. The corn only ever falls,
     * so to be anywhere sooner is never worse, and nobody gains by lying still.
     */
    private static final class Chart {
        private final int[] hours = new int[CELLS];
        private final int[] firstWays = new int[CELLS];

        void plot(Sea sea, Hull one, int from, int now) {
            for (int cell = 0; cell < CELLS; cell++) {
                hours[cell] = NONE;
                firstWays[cell] = NONE;
            }
            if (!isCell(from)) {
                return;
            }
            hours[from] = now;
            int settled = 0;
            int next = from;
            for (int round = 0; round < CELLS && next != NONE; round++) {
                settled |= 1 << next;
                sailOnFrom(sea, one, next);
                next = soonestOpen(settled);
            }
        }

        int hourAt(int cell) {
            return isCell(cell) ? hours[cell] : NONE;
        }

        int firstWayTo(int cell) {
            return isCell(cell) ? firstWays[cell] : NONE;
        }

        private void sailOnFrom(Sea sea, Hull one, int cell) {
            if (!isCell(cell)) {
                return;
            }
            for (int way = 0; way < WAYS; way++) {
                int lasts = sea.hoursToSail(one, cell, way, hours[cell]);
                if (lasts != NONE) {
                    int first = firstWays[cell] == NONE ? way : firstWays[cell];
                    arrive(beside(cell, way), hours[cell] + lasts, first);
                }
            }
        }

        private void arrive(int cell, int when, int first) {
            if (!isCell(cell)) {
                return;
            }
            boolean sooner = hours[cell] == NONE || when < hours[cell];
            if (sooner || when == hours[cell] && first < firstWays[cell]) {
                hours[cell] = when;
                firstWays[cell] = first;
            }
        }

        private int soonestOpen(int settled) {
            int best = NONE;
            for (int cell = 0; cell < CELLS; cell++) {
                boolean open = (settled >> cell & 1) == 0 && hours[cell] != NONE;
                if (open && (best == NONE || hours[cell] < hours[best])) {
                    best = cell;
                }
            }
            return best;
        }
    }

    /** The order in which all come home best. */
    private static final class Homecoming {
        /** All orders of three, the first by numbers first; with fewer hulls the missing ones stand last. */
        private static final int[] ORDERS = {0, 1, 2, 0, 2, 1, 1, 0, 2, 1, 2, 0, 2, 0, 1, 2, 1, 0};

        int many;
        int hour;
        private int order;

        void find(Sea sea, Chart chart, Hull[] hulls, int cell, int now) {
            many = NONE;
            hour = now;
            order = 0;
            for (int next = 0; next < ORDERS.length / HULLS; next++) {
                int came = 0;
                int then = now;
                for (int place = 0; place < HULLS; place++) {
                    Hull one = hullIn(hulls, next, place);
                    if (one != null) {
                        chart.plot(sea, one, one.cell, then);
                        int there = chart.hourAt(cell);
                        came += there == NONE ? 0 : 1;
                        then = there == NONE ? then : there;
                    }
                }
                if (came > many || came == many && then < hour) {
                    many = came;
                    hour = then;
                    order = next;
                }
            }
        }

        int hullInPlace(int place) {
            return numberIn(order, place);
        }

        private Hull hullIn(Hull[] hulls, int order, int place) {
            int number = numberIn(order, place);
            return number >= 0 && number < hulls.length ? hulls[number] : null;
        }

        private int numberIn(int order, int place) {
            int index = order * HULLS + place;
            return index >= 0 && index < ORDERS.length ? ORDERS[index] : NONE;
        }
    }

    // ---- what was seen

    private static final class Seen {
        int many;
        private final int[] numbers = new int[SIGHTINGS];
        private final int[] cells = new int[SIGHTINGS];
        private final int[] hours = new int[SIGHTINGS];
        /** By the hour, as bits: where the sightings of that hour let a hull be. */
        private final int[] may = new int[LAST_SEEN_HOUR + 1];
        /** By the hour, as bits: from where it can still meet all later sightings, too. */
        private final int[] can = new int[LAST_SEEN_HOUR + 1];

        boolean add(int number, int cell, int hour) {
            if (many < 0 || many >= SIGHTINGS) {
                return false;
            }
            numbers[many] = number;
            cells[many] = cell;
            hours[many] = hour;
            many++;
            return true;
        }

        void become(Seen other) {
            many = other.many;
            for (int i = 0; i < SIGHTINGS; i++) {
                numbers[i] = other.numbers[i];
                cells[i] = other.cells[i];
                hours[i] = other.hours[i];
            }
        }

        /** Goes back from the last sighting, as only what comes behind an hour decides what is possible there. */
        int startsOf(Sea sea, Hull one, int number) {
            int last = lookUp(number);
            for (int hour = last; hour >= 0; hour--) {
                can[hour] = 0;
                for (int cell = 0; cell < CELLS; cell++) {
                    boolean allowed = (may[hour] >> cell & 1) == 1;
                    if (allowed && (hour == last || goesOn(sea, one, cell, hour, last))) {
                        can[hour] |= 1 << cell;
                    }
                }
            }
            return can[0];
        }

        /** Fills the row of what may be; answers the last hour of a sighting (0: there is none). */
        private int lookUp(int number) {
            for (int hour = 0; hour < may.length; hour++) {
                may[hour] = ANYWHERE;
            }
            int last = 0;
            for (int i = 0; i < many && i < SIGHTINGS; i++) {
                int hour = hours[i];
                if (numbers[i] == number && hour >= 0 && hour < may.length) {
                    may[hour] &= 1 << cells[i];
                    last = Math.max(last, hour);
                }
            }
            return last;
        }

        private boolean goesOn(Sea sea, Hull one, int cell, int hour, int last) {
            if (canBe(cell, hour + 1, last)) {
                return true;
            }
            for (int way = 0; way < WAYS; way++) {
                int lasts = sea.hoursToSail(one, cell, way, hour);
                if (lasts != NONE && unseenBetween(hour, hour + lasts)
                        && canBe(beside(cell, way), hour + lasts, last)) {
                    return true;
                }
            }
            return false;
        }

        private boolean canBe(int cell, int hour, int last) {
            return isCell(cell) && hour >= 0 && hour <= last && hour < can.length
                    && (can[hour] >> cell & 1) == 1;
        }

        /** Under way it is on no cell, so it must not have been seen then. */
        private boolean unseenBetween(int out, int there) {
            for (int hour = out + 1; hour < there && hour < may.length; hour++) {
                if (hour >= 0 && may[hour] != ANYWHERE) {
                    return false;
                }
            }
            return true;
        }
    }

    // ---- Junes

    private static final class June {
        private static final int WINDS = NO_WIND + 1;

        private final int[] cells = new int[HULLS];
        int hour;
        int seed;
        int failed;

        void begin(Hull[] hulls, int now, int firstSeed) {
            hour = now;
            seed = firstSeed;
            failed = 0;
            for (int number = 0; number < HULLS && number < hulls.length; number++) {
                Hull one = hulls[number];
                cells[number] = one == null ? NONE : one.cell;
            }
        }

        void run(Sea sea, Hull[] hulls, int times) {
            for (int time = 0; time < times; time++) {
                for (int number = 0; number < HULLS && number < hulls.length; number++) {
                    Hull one = hulls[number];
                    if (one != null) {
                        sea.wind = drawn(WINDS);
                        cells[number] = afterSailing(sea, one, cells[number], drawn(WAYS));
                    }
                }
            }
        }

        int stranded(Sea sea, Hull[] hulls) {
            int many = 0;
            for (int number = 0; number < HULLS && number < hulls.length; number++) {
                Hull one = hulls[number];
                if (one != null && !sea.floats(one, cells[number], hour)) {
                    many++;
                }
            }
            return many;
        }

        private int afterSailing(Sea sea, Hull one, int cell, int way) {
            int lasts = sea.hoursToSail(one, cell, way, hour);
            if (lasts == NONE) {
                failed++;
                return cell;
            }
            hour += lasts;
            return beside(cell, way);
        }

        private int drawn(int sides) {
            seed = (int) (1103515245L * seed + 12345L & 0x7fffffffL);
            return sides > 0 ? seed / 65536 % sides : 0;
        }
    }

    // ---- the image

    /** What restore() goes back to. Kinds and draughts of the hulls never change, so they need no copy. */
    private static final class Image {
        boolean there;
        int hullCount;
        int hour;
        int wind;
        final Seen seen = new Seen();
        private final int[] cells = new int[HULLS];
        private final int[] sailed = new int[HULLS];

        void keep(Hull[] hulls, int many) {
            there = true;
            hullCount = many;
            for (int number = 0; number < HULLS && number < hulls.length; number++) {
                Hull one = hulls[number];
                if (one != null) {
                    cells[number] = one.cell;
                    sailed[number] = one.sailed;
                }
            }
        }

        void giveBack(Hull[] hulls) {
            for (int number = 0; number < HULLS && number < hulls.length; number++) {
                Hull one = hulls[number];
                if (number >= hullCount) {
                    hulls[number] = null;
                } else if (one != null) {
                    one.cell = cells[number];
                    one.sailed = sailed[number];
                }
            }
        }
    }
}
