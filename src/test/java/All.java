import java.util.ArrayList;
import java.util.List;

/** Everything that an object tells, to find out whether two of them are in the same state. */
final class All {
    /** How many calls same() makes on each object. */
    static final int CALLS;

    private static final List<Story.Call> TELLING = telling();
    /** Behind all that telling: what the IMAGE keeps, and whether THE PAGE is what it seems. */
    private static final List<Story.Call> PROBES = List.of(call("restore"), call("digest"), call("fault"),
            call("blank"), call("forget"), call("hull", 0, 1, 0), call("digest"));

    static {
        CALLS = TELLING.size() + PROBES.size();
    }

    private All() {
    }

    private static Story.Call call(String name, int... of) {
        return new Story.Call(name, of);
    }

    private static List<Story.Call> telling() {
        List<Story.Call> calls = new ArrayList<>(List.of(call("digest"), call("fault")));
        for (int what = 0; what <= 8; what++) {
            calls.add(call("count", what));
        }
        for (int cell = 0; cell < 12; cell++) {
            for (int what = 0; what <= 3; what++) {
                calls.add(call("cell", cell, what));
            }
            calls.add(call("home", cell, 0));
            calls.add(call("home", cell, 1));
            calls.add(call("home", cell, 10));
            calls.add(call("home", cell, 11));
        }
        for (int what = 0; what <= 3; what++) {
            calls.add(call("junes", 7, 1234567, what));
        }
        for (int hull = 0; hull < 3; hull++) {
            tellingOf(hull, calls);
        }
        return calls;
    }

    private static void tellingOf(int hull, List<Story.Call> calls) {
        for (int what : new int[] {0, 1, 2, 3, 4, 10, 11, 12, 13}) {
            calls.add(call("about", hull, what));
        }
        for (int cell = 0; cell < 12; cell++) {
            calls.add(call("voyage", hull, cell, 1));
        }
        for (int cell = 0; cell < 12; cell += 3) {
            calls.add(call("latest", hull, cell));
            calls.add(call("bestWind", hull, cell));
        }
        calls.add(call("start", hull));
        calls.add(call("as", hull, 1));
    }

    static void same(Due due, String why, WheatSea x, WheatSea y) {
        for (Story.Call call : TELLING) {
            due.same(why + ", " + call, call.on(x), call.on(y));
        }
        for (Story.Call probe : PROBES) {
            due.same(why + ", then " + probe, probe.on(x), probe.on(y));
        }
    }
}
