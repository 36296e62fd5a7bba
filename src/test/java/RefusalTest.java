import java.util.ArrayList;
import java.util.List;

/**
 * Every call with every edge of its numbers, in five states from empty to full: it is refused as the document
 * tells, of several refusals the first as told, and not refused otherwise; and what was refused changes nothing.
 */
public final class RefusalTest {
    private static final Due due = new Due("RefusalTest");
    private static final int NOT = 0;
    private static final int BATCH = 200;
    private static final int[] HULLS = {Integer.MIN_VALUE, -1, 0, 1, 2, 3, Integer.MAX_VALUE};
    private static final int[] CELLS = {Integer.MIN_VALUE, -1, 0, 11, 12, Integer.MAX_VALUE};
    private static final int[] KINDS = {Integer.MIN_VALUE, -1, 0, 4, 5, Integer.MAX_VALUE};

    /** What an object has behind the steps that lead to it. */
    private record State(String name, boolean plain, int hulls, int letters, int seen, int hour, boolean image,
            String... steps) {
    }

    private static final List<State> STATES = List.of(
            new State("no PLAIN", false, 0, 3, 0, 0, false, "letter 49", "letter 44", "letter 7"),
            new State("no HULLS", true, 0, 0, 0, 0, false, "plain 9999,9999,9999;9"),
            new State("in between", true, 2, 2, 3, 9, true, "plain 9999,9919,9909;9", "hull 0 2 5", "hull 4 3 11",
                    "wind 1", "pass 4", "image", "sail 0 2", "sail 1 3", "see 0 4 5", "see 1 2 3", "see 1 2 3",
                    "letter 49", "letter 44"),
            new State("STRANDED", true, 1, 0, 0, 30, true, "plain 0000,0000,0000;9", "hull 0 1 5", "pass 30", "image"),
            new State("full", true, 3, 18, 6, 999, true, "plain 1111,1111,1111;1", "hull 3 9 5", "hull 1 1 0",
                    "hull 2 9 11", "wind 0", "see 0 5 4", "see 0 6 6", "see 2 11 0", "see 2 11 40",
                    "see 1 4 0", "see 1 5 1", "letters 18", "to 999", "image"));

    public static void main(String[] args) {
        for (State state : STATES) {
            isAsTold(state);
            sweep(state, "letter", new int[] {Integer.MIN_VALUE, -1, 0, 1, 126, 127, Integer.MAX_VALUE});
            sweep(state, "blank");
            sweep(state, "fault");
            sweep(state, "plain");
            sweep(state, "cell", CELLS, new int[] {Integer.MIN_VALUE, -1, 0, 3, 4, Integer.MAX_VALUE});
            sweep(state, "wind", KINDS);
            sweep(state, "pass", new int[] {Integer.MIN_VALUE, -1, 0, 1, 30, 31, Integer.MAX_VALUE});
            sweep(state, "hull", KINDS, new int[] {Integer.MIN_VALUE, -1, 0, 1, 9, 10, Integer.MAX_VALUE}, CELLS);
            sweep(state, "about", HULLS, new int[] {Integer.MIN_VALUE, -1, 0, 4, 5, 9, 10, 13, 14, Integer.MAX_VALUE});
            sweep(state, "as", HULLS, KINDS);
            sweep(state, "sail", HULLS, new int[] {Integer.MIN_VALUE, -1, 0, 1, 2, 3, 4, Integer.MAX_VALUE});
            sweep(state, "voyage", HULLS, CELLS, new int[] {Integer.MIN_VALUE, -1, 0, 1, 2, Integer.MAX_VALUE});
            sweep(state, "latest", HULLS, CELLS);
            sweep(state, "home", CELLS, new int[] {Integer.MIN_VALUE, -1, 0, 1, 2, 9, 10, 12, 13, Integer.MAX_VALUE});
            sweep(state, "bestWind", HULLS, CELLS);
            sweep(state, "see", HULLS, CELLS, new int[] {Integer.MIN_VALUE, Integer.MAX_VALUE, -1, 41, 40, 0});
            sweep(state, "forget");
            sweep(state, "start", HULLS);
            sweep(state, "junes", new int[] {Integer.MIN_VALUE, -1, 0, 1, 20, 21, Integer.MAX_VALUE},
                    new int[] {Integer.MIN_VALUE, -1, 0, Integer.MAX_VALUE},
                    new int[] {Integer.MIN_VALUE, -1, 0, 3, 4, Integer.MAX_VALUE});
            sweep(state, "image");
            sweep(state, "restore");
            sweep(state, "count", new int[] {Integer.MIN_VALUE, -1, 0, 8, 9, Integer.MAX_VALUE});
        }
        due.end();
    }

    private static WheatSea made(State state) {
        WheatSea x = new WheatSea();
        for (String step : state.steps()) {
            String[] parts = step.split(" ");
            switch (parts[0]) {
                case "plain" -> {
                    Due.type(x, parts[1]);
                    x.plain();
                }
                case "letters" -> {
                    for (int i = 0; i < 18; i++) {
                        x.letter(49);
                    }
                }
                case "to" -> {
                    for (int i = 0; i < 33; i++) {
                        x.pass(30);
                    }
                    x.pass(9);
                }
                default -> {
                    int[] of = new int[parts.length - 1];
                    for (int i = 0; i < of.length; i++) {
                        of[i] = Integer.parseInt(parts[i + 1]);
                    }
                    new Story.Call(parts[0], of).on(x);
                }
            }
        }
        return x;
    }

    private static void isAsTold(State state) {
        WheatSea x = made(state);
        due.same(state.name() + ": a PLAIN", x.count(0) > 0 ? 1 : 0, state.plain() ? 1 : 0);
        due.same(state.name() + ": HULLS", x.count(2), state.hulls());
        due.same(state.name() + ": the HOUR", x.count(4), state.hour());
        due.same(state.name() + ": what is SEEN", x.count(6), state.seen());
        due.same(state.name() + ": letters", x.count(7), state.letters());
        due.same(state.name() + ": an IMAGE", x.restore() >= 0 ? 1 : 0, state.image() ? 1 : 0);
    }

    private static void sweep(State state, String name, int[]... edges) {
        List<Story.Call> refused = new ArrayList<>();
        for (int[] of : all(edges, 0)) {
            Story.Call call = new Story.Call(name, of);
            long want = refusal(state, call);
            if (want == NOT) {
                long answer = call.on(made(state));
                due.same(state.name() + ": " + call + " is not refused, but " + answer,
                        answer <= Due.UNKNOWN && answer >= Due.FULL ? 1 : 0, 0);
            } else {
                refused.add(call);
            }
        }
        for (int from = 0; from < refused.size(); from += BATCH) {
            refuse(state, refused.subList(from, Math.min(refused.size(), from + BATCH)));
        }
    }

    private static void refuse(State state, List<Story.Call> calls) {
        WheatSea x = made(state);
        for (Story.Call call : calls) {
            due.same(state.name() + ": " + call, call.on(x), refusal(state, call));
        }
        All.same(due, state.name() + ": behind " + calls.get(0) + " and the like", x, made(state));
    }

    private static List<int[]> all(int[][] edges, int at) {
        List<int[]> all = new ArrayList<>();
        if (at == edges.length) {
            all.add(new int[edges.length]);
            return all;
        }
        for (int edge : edges[at]) {
            for (int[] rest : all(edges, at + 1)) {
                rest[at] = edge;
                all.add(rest);
            }
        }
        return all;
    }

    // ---- what is due, by the words of each promise

    private static int refusal(State state, Story.Call call) {
        int[] a = call.of();
        return switch (call.name()) {
            case "letter" -> first(outside(a[0], 1, 126), state.letters() == 18 ? Due.FULL : NOT);
            case "plain" -> Due.STATE;
            case "cell" -> first(unknownCell(state, a[0]), outside(a[1], 0, 3));
            case "wind" -> first(outside(a[0], 0, 4), noPlain(state));
            case "pass" -> first(outside(a[0], 1, 30), noPlain(state), above(state, a[0]));
            case "hull" -> first(outside(a[0], 0, 4), outside(a[1], 1, 9), unknownCell(state, a[2]),
                    state.hulls() == 3 ? Due.FULL : NOT);
            case "about" -> first(unknownHull(state, a[0]),
                    a[1] >= 10 ? outside(a[1], 10, 13) : outside(a[1], 0, 4));
            case "as" -> first(unknownHull(state, a[0]), outside(a[1], 0, 4));
            case "sail" -> first(unknownHull(state, a[0]), outside(a[1], 0, 3), cannot(state, a[0], a[1]));
            case "voyage" -> first(unknownHull(state, a[0]), unknownCell(state, a[1]), outside(a[2], 0, 1));
            case "latest", "bestWind" -> first(unknownHull(state, a[0]), unknownCell(state, a[1]));
            case "home" -> first(unknownCell(state, a[0]), a[1] >= 10 ? outside(a[1], 10, 12) : outside(a[1], 0, 1));
            case "see" -> first(unknownHull(state, a[0]), unknownCell(state, a[1]), outside(a[2], 0, 40),
                    state.seen() == 6 ? Due.FULL : NOT);
            case "start" -> unknownHull(state, a[0]);
            case "junes" -> first(outside(a[0], 1, 20), outside(a[1], 0, Integer.MAX_VALUE), outside(a[2], 0, 3),
                    noPlain(state));
            case "image" -> noPlain(state);
            case "restore" -> state.image() ? NOT : Due.STATE;
            case "count" -> outside(a[0], 0, 8);
            default -> NOT;
        };
    }

    private static int first(int... refusals) {
        for (int refusal : refusals) {
            if (refusal != NOT) {
                return refusal;
            }
        }
        return NOT;
    }

    private static int outside(int number, int least, int most) {
        return number < least || number > most ? Due.OUTSIDE : NOT;
    }

    private static int unknownCell(State state, int cell) {
        return !state.plain() || cell < 0 || cell > 11 ? Due.UNKNOWN : NOT;
    }

    private static int unknownHull(State state, int hull) {
        return hull < 0 || hull >= state.hulls() ? Due.UNKNOWN : NOT;
    }

    private static int noPlain(State state) {
        return state.plain() ? NOT : Due.STATE;
    }

    private static int above(State state, int hours) {
        return hours > 999 - state.hour() ? Due.STATE : NOT;
    }

    private static int cannot(State state, int hull, int way) {
        if (unknownHull(state, hull) != NOT || outside(way, 0, 3) != NOT) {
            return NOT;
        }
        int hours = made(state).about(hull, 10 + way);
        return hours == Due.NONE || hours > 999 - state.hour() ? Due.STATE : NOT;
    }
}
