import java.math.BigInteger;
import java.util.ArrayList;
import java.util.List;

/**
 * The document once more, in the slowest and plainest way: every question is answered by
 * going through all hours, so that it shares no way of thinking with WheatSea.
 */
final class SlowSea {
    static final int NONE = -1, UNKNOWN = -101, OUTSIDE = -102, STATE = -103, FULL = -104;
    private static final int[] RIGHT = {1, 0, -1, 0};
    private static final int[] DOWN = {0, 1, 0, -1};
    private static final int BEYOND = 60;

    record Ship(int kind, int draught, int cell, int sailed) {
        boolean floatsIn(int high) {
            return switch (kind) {
                case 1, 4 -> high + 1 >= draught;
                case 3 -> true;
                default -> high >= draught;
            };
        }

        int hours(int way, int wind) {
            String turn = wind == 4 ? "without" : way == wind ? "with" : (way + 2) % 4 == wind ? "against" : "across";
            int more = kind == 3 ? 1 : 0;
            return switch (turn) {
                case "with" -> 1 + more;
                case "across" -> 2 + more;
                case "without" -> kind == 4 ? 2 : 3 + more;
                default -> kind == 2 ? 4 : kind == 4 ? 3 : NONE;
            };
        }
    }

    record Sighting(int hull, int cell, int hour) {
    }

    record Keepsake(List<Ship> ships, List<Sighting> seen, int hour, int wind) {
    }

    private String page = "";
    private String plain = "";
    private String digits = "";
    private int plains;
    private int hour;
    private int wind = 4;
    private List<Ship> ships = new ArrayList<>();
    private List<Sighting> seen = new ArrayList<>();
    private Keepsake kept;

    // ---- the plain

    int letter(int code) {
        if (code < 1 || code > 126) {
            return OUTSIDE;
        }
        if (page.length() == 18) {
            return FULL;
        }
        page += (char) code;
        return page.length();
    }

    int blank() {
        int had = page.length();
        page = "";
        return had;
    }

    int fault() {
        String rest = "0000,0000,0000;1";
        for (int many = page.length(); many > 0; many--) {
            if (many <= 16 && (page.substring(0, many) + rest.substring(many)).matches("(\\d{4},){2}\\d{4};[1-9]")) {
                return many;
            }
        }
        return 0;
    }

    int plain() {
        if (!page.matches("(\\d{4},){2}\\d{4};[1-9]")) {
            return STATE;
        }
        plain = page;
        digits = plain.replaceAll("[^0-9]", "");
        page = "";
        plains++;
        hour = 0;
        wind = 4;
        ships = new ArrayList<>();
        seen = new ArrayList<>();
        kept = null;
        int sum = 0;
        for (int cell = 0; cell < 12; cell++) {
            sum += sown(cell);
        }
        return sum;
    }

    private int sown(int cell) {
        return digits.charAt(cell) - '0';
    }

    private int reap() {
        return plain.isEmpty() ? 0 : plain.charAt(15) - '0';
    }

    private int corn(int cell, int when, int reap) {
        int cut = 0;
        for (int c = 0; c <= cell; c++) {
            cut += reap;
        }
        return when >= cut ? 0 : sown(cell);
    }

    private boolean names(int cell) {
        return !plain.isEmpty() && cell >= 0 && cell <= 11;
    }

    private boolean sails(int hull) {
        return hull >= 0 && hull < ships.size();
    }

    int cell(int cell, int what) {
        if (!names(cell)) {
            return UNKNOWN;
        }
        return switch (what) {
            case 0 -> corn(cell, hour, reap());
            case 1 -> sown(cell);
            case 2 -> (cell + 1) * reap();
            case 3 -> (int) ships.stream().filter(s -> s.cell() == cell).count();
            default -> OUTSIDE;
        };
    }

    int wind(int to) {
        if (to < 0 || to > 4) {
            return OUTSIDE;
        }
        if (plain.isEmpty()) {
            return STATE;
        }
        int was = wind;
        wind = to;
        return was;
    }

    int pass(int hours) {
        if (hours < 1 || hours > 30) {
            return OUTSIDE;
        }
        if (plain.isEmpty() || hour + hours > 999) {
            return STATE;
        }
        return hour += hours;
    }

    // ---- hulls

    int hull(int kind, int draught, int cell) {
        if (kind < 0 || kind > 4 || draught < 1 || draught > 9) {
            return OUTSIDE;
        }
        if (!names(cell)) {
            return UNKNOWN;
        }
        if (ships.size() == 3) {
            return FULL;
        }
        ships.add(new Ship(kind, draught, cell, 0));
        return ships.size() - 1;
    }

    private static int next(int cell, int way) {
        int column = cell % 4 + RIGHT[way];
        int row = cell / 4 + DOWN[way];
        return column < 0 || column > 3 || row < 0 || row > 2 ? NONE : 4 * row + column;
    }

    private int toSail(Ship ship, int cell, int way, int when, int reap, int wind) {
        int there = next(cell, way);
        if (there == NONE || !ship.floatsIn(corn(cell, when, reap))) {
            return NONE;
        }
        int hours = ship.hours(way, wind);
        return hours != NONE && ship.floatsIn(corn(there, when + hours, reap)) ? hours : NONE;
    }

    int about(int hull, int what) {
        if (!sails(hull)) {
            return UNKNOWN;
        }
        Ship ship = ships.get(hull);
        if (what >= 10 && what <= 13) {
            return toSail(ship, ship.cell(), what - 10, hour, reap(), wind);
        }
        return switch (what) {
            case 0 -> ship.kind();
            case 1 -> ship.draught();
            case 2 -> ship.cell();
            case 3 -> ship.floatsIn(corn(ship.cell(), hour, reap())) ? 0 : 1;
            case 4 -> ship.sailed();
            default -> OUTSIDE;
        };
    }

    int as(int hull, int kind) {
        if (!sails(hull)) {
            return UNKNOWN;
        }
        if (kind < 0 || kind > 4) {
            return OUTSIDE;
        }
        int own = ships.get(hull).kind();
        return kind == 0 || kind == own || own == 4 && kind == 1 ? hull : NONE;
    }

    int sail(int hull, int way) {
        if (!sails(hull)) {
            return UNKNOWN;
        }
        if (way < 0 || way > 3) {
            return OUTSIDE;
        }
        Ship ship = ships.get(hull);
        int hours = toSail(ship, ship.cell(), way, hour, reap(), wind);
        if (hours == NONE || hour + hours > 999) {
            return STATE;
        }
        ships.set(hull, new Ship(ship.kind(), ship.draught(), next(ship.cell(), way), ship.sailed() + hours));
        return hour += hours;
    }

    // ---- what would be

    /** The hour at which it is there first, of all ways to sail and to lie still between. */
    private int soonest(Ship ship, int from, int to, int now, int reap, int wind) {
        boolean[][] on = new boolean[BEYOND + 5][12];
        on[0][from] = true;
        for (int t = 0; t < BEYOND; t++) {
            for (int cell = 0; cell < 12; cell++) {
                if (!on[t][cell]) {
                    continue;
                }
                if (cell == to) {
                    return now + t;
                }
                on[t + 1][cell] = true;
                for (int way = 0; way < 4; way++) {
                    int hours = toSail(ship, cell, way, now + t, reap, wind);
                    if (hours != NONE) {
                        on[t + hours][next(cell, way)] = true;
                    }
                }
            }
        }
        return NONE;
    }

    int voyage(int hull, int cell, int what) {
        if (!sails(hull) || !names(cell)) {
            return UNKNOWN;
        }
        if (what != 0 && what != 1) {
            return OUTSIDE;
        }
        Ship ship = ships.get(hull);
        int when = soonest(ship, ship.cell(), cell, hour, reap(), wind);
        if (what == 0) {
            return when;
        }
        for (int way = 0; way < 4 && when != NONE && ship.cell() != cell; way++) {
            int hours = toSail(ship, ship.cell(), way, hour, reap(), wind);
            if (hours != NONE
                    && soonest(ship, next(ship.cell(), way), cell, hour + hours, reap(), wind) == when) {
                return way;
            }
        }
        return NONE;
    }

    int latest(int hull, int cell) {
        if (!sails(hull) || !names(cell)) {
            return UNKNOWN;
        }
        int least = NONE;
        for (int reap = 9; reap >= 1; reap--) {
            if (soonest(ships.get(hull), ships.get(hull).cell(), cell, hour, reap, wind) != NONE) {
                least = reap;
            }
        }
        return least;
    }

    private record Coming(int many, int hour, List<Integer> order) {
        boolean isBetterThan(Coming other) {
            return many != other.many ? many > other.many : hour < other.hour;
        }
    }

    private Coming bestComing(List<Integer> ahead, int many, int when, int cell) {
        if (ahead.size() == ships.size()) {
            return new Coming(many, when, ahead);
        }
        Coming best = null;
        for (int hull = 0; hull < ships.size(); hull++) {
            if (!ahead.contains(hull)) {
                List<Integer> order = new ArrayList<>(ahead);
                order.add(hull);
                int there = soonest(ships.get(hull), ships.get(hull).cell(), cell, when, reap(), wind);
                Coming next = there == NONE ? bestComing(order, many, when, cell)
                        : bestComing(order, many + 1, there, cell);
                if (best == null || next.isBetterThan(best)) {
                    best = next;
                }
            }
        }
        return best;
    }

    int home(int cell, int what) {
        if (!names(cell)) {
            return UNKNOWN;
        }
        if (what != 0 && what != 1 && what != 10 && what != 11 && what != 12) {
            return OUTSIDE;
        }
        Coming best = bestComing(List.of(), 0, hour, cell);
        if (what >= 10) {
            return what - 10 < best.order().size() ? best.order().get(what - 10) : NONE;
        }
        return what == 0 ? best.many() : best.hour();
    }

    int bestWind(int hull, int cell) {
        if (!sails(hull) || !names(cell)) {
            return UNKNOWN;
        }
        int best = NONE;
        int least = Integer.MAX_VALUE;
        for (int other = 4; other >= 0; other--) {
            int when = soonest(ships.get(hull), ships.get(hull).cell(), cell, hour, reap(), other);
            if (when != NONE && when <= least) {
                least = when;
                best = other;
            }
        }
        return best;
    }

    // ---- what was seen

    int see(int hull, int cell, int when) {
        if (!sails(hull) || !names(cell)) {
            return UNKNOWN;
        }
        if (when < 0 || when > 40) {
            return OUTSIDE;
        }
        if (seen.size() == 6) {
            return FULL;
        }
        seen.add(new Sighting(hull, cell, when));
        return seen.size();
    }

    int forget() {
        int was = seen.size();
        seen = new ArrayList<>();
        return was;
    }

    private boolean wasSeenAt(int hull, int when) {
        return seen.stream().anyMatch(s -> s.hull() == hull && s.hour() == when);
    }

    private boolean wasSeenElsewhere(int hull, int cell, int when) {
        return seen.stream().anyMatch(s -> s.hull() == hull && s.hour() == when && s.cell() != cell);
    }

    /** Forwards from one cell: where it can lie at each hour, under all that was seen. */
    private boolean canHaveStarted(int hull, int from) {
        Ship ship = ships.get(hull);
        boolean[][] on = new boolean[50][12];
        on[0][from] = true;
        boolean any = false;
        for (int t = 0; t <= 41; t++) {
            any = false;
            for (int cell = 0; cell < 12; cell++) {
                on[t][cell] &= !wasSeenElsewhere(hull, cell, t);
                if (!on[t][cell]) {
                    continue;
                }
                any = true;
                on[t + 1][cell] = true;
                for (int way = 0; way < 4; way++) {
                    int hours = toSail(ship, cell, way, t, reap(), wind);
                    boolean underWay = false;
                    for (int h = t + 1; h < t + hours; h++) {
                        underWay |= wasSeenAt(hull, h);
                    }
                    if (hours != NONE && !underWay) {
                        on[t + hours][next(cell, way)] = true;
                    }
                }
            }
        }
        return any;
    }

    int start(int hull) {
        if (!sails(hull)) {
            return UNKNOWN;
        }
        int bits = 0;
        for (int cell = 0; cell < 12; cell++) {
            bits += canHaveStarted(hull, cell) ? (int) Math.pow(2, cell) : 0;
        }
        return bits;
    }

    private static BigInteger nextSeed(BigInteger seed) {
        return BigInteger.valueOf(1103515245L).multiply(seed).add(BigInteger.valueOf(12345)).mod(BigInteger.TWO.pow(31));
    }

    private static int draw(BigInteger seed, int of) {
        return seed.divide(BigInteger.valueOf(65536)).mod(BigInteger.valueOf(of)).intValue();
    }

    int junes(int times, int seed, int what) {
        if (times < 1 || times > 20 || seed < 0 || what < 0 || what > 3) {
            return OUTSIDE;
        }
        if (plain.isEmpty()) {
            return STATE;
        }
        BigInteger now = BigInteger.valueOf(seed);
        int[] cells = ships.stream().mapToInt(Ship::cell).toArray();
        int when = hour;
        int could = 0;
        for (int i = 0; i < times * ships.size(); i++) {
            int hull = i % ships.size();
            now = nextSeed(now);
            int blows = draw(now, 5);
            now = nextSeed(now);
            int way = draw(now, 4);
            int hours = toSail(ships.get(hull), cells[hull], way, when, reap(), blows);
            if (hours == NONE) {
                could++;
            } else {
                cells[hull] = next(cells[hull], way);
                when += hours;
            }
        }
        int stranded = 0;
        for (int hull = 0; hull < cells.length; hull++) {
            stranded += ships.get(hull).floatsIn(corn(cells[hull], when, reap())) ? 0 : 1;
        }
        return new int[] {could, stranded, when, now.intValueExact()}[what];
    }

    // ---- what is told of all

    int image() {
        if (plain.isEmpty()) {
            return STATE;
        }
        kept = new Keepsake(List.copyOf(ships), List.copyOf(seen), hour, wind);
        return hour;
    }

    int restore() {
        if (kept == null) {
            return STATE;
        }
        ships = new ArrayList<>(kept.ships());
        seen = new ArrayList<>(kept.seen());
        hour = kept.hour();
        wind = kept.wind();
        return hour;
    }

    int count(int what) {
        switch (what) {
            case 0:
                return reap();
            case 1:
                int cut = 0;
                for (int cell = 0; cell < 12 && !plain.isEmpty(); cell++) {
                    cut += cell(cell, 2) <= hour ? 1 : 0;
                }
                return cut;
            case 2:
                return ships.size();
            case 3:
                int stranded = 0;
                for (int hull = 0; hull < ships.size(); hull++) {
                    stranded += about(hull, 3);
                }
                return stranded;
            case 4:
                return hour;
            case 5:
                return wind;
            case 6:
                return seen.size();
            case 7:
                return page.length();
            case 8:
                return plains;
            default:
                return OUTSIDE;
        }
    }

    long digest() {
        List<Integer> numbers = new ArrayList<>();
        for (int cell = 0; cell < 12 && !plain.isEmpty(); cell++) {
            for (int what = 0; what <= 3; what++) {
                numbers.add(cell(cell, what));
            }
        }
        for (int hull = 0; hull < ships.size(); hull++) {
            for (int what : new int[] {0, 1, 2, 3, 4, 10, 11, 12, 13}) {
                numbers.add(about(hull, what));
            }
            for (int cell = 0; cell < 12; cell++) {
                numbers.add(voyage(hull, cell, 0));
            }
            numbers.add(start(hull));
        }
        page.chars().forEach(numbers::add);
        for (int what = 0; what <= 8; what++) {
            numbers.add(count(what));
        }
        long h = 863;
        for (int number : numbers) {
            h = 31 * h + number;
        }
        return h;
    }
}
