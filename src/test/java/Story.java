import java.util.ArrayList;
import java.util.List;
import java.util.Set;

/**
 * A run of calls on a new object, step by step, for one sentence of the document. A step is
 * 'sail(0, 1) = 3', 'pass(30)' (whatever it answers), '33 x pass(30)', 'type 99:' (letters of THE PAGE)
 * or 'plain 9999,9999,9999;9' (typed and read). At its end a second object goes through the same steps
 * without those that were refused and those that only tell: both must tell the same about everything,
 * as a refusal changes nothing, and telling neither.
 */
final class Story {
    /** What an object answers behind so many calls is free, so that no story may go on for longer. */
    static final int MOST_CALLS = 512;
    private static final Set<String> ONLY_TELL = Set.of("fault", "cell", "about", "as", "voyage", "latest", "home",
            "bestWind", "start", "junes", "count", "digest");

    record Call(String name, int[] of) {
        static Call parsed(String text) {
            int open = text.indexOf('(');
            String inner = text.substring(open + 1, text.indexOf(')')).trim();
            String[] parts = inner.isEmpty() ? new String[0] : inner.split(",");
            int[] of = new int[parts.length];
            for (int i = 0; i < of.length; i++) {
                of[i] = number(parts[i].trim());
            }
            return new Call(text.substring(0, open).trim(), of);
        }

        long on(WheatSea x) {
            return switch (name + of.length) {
                case "letter1" -> x.letter(of[0]);
                case "blank0" -> x.blank();
                case "fault0" -> x.fault();
                case "plain0" -> x.plain();
                case "cell2" -> x.cell(of[0], of[1]);
                case "wind1" -> x.wind(of[0]);
                case "pass1" -> x.pass(of[0]);
                case "hull3" -> x.hull(of[0], of[1], of[2]);
                case "about2" -> x.about(of[0], of[1]);
                case "as2" -> x.as(of[0], of[1]);
                case "sail2" -> x.sail(of[0], of[1]);
                case "voyage3" -> x.voyage(of[0], of[1], of[2]);
                case "latest2" -> x.latest(of[0], of[1]);
                case "home2" -> x.home(of[0], of[1]);
                case "bestWind2" -> x.bestWind(of[0], of[1]);
                case "see3" -> x.see(of[0], of[1], of[2]);
                case "forget0" -> x.forget();
                case "start1" -> x.start(of[0]);
                case "junes3" -> x.junes(of[0], of[1], of[2]);
                case "image0" -> x.image();
                case "restore0" -> x.restore();
                case "count1" -> x.count(of[0]);
                case "digest0" -> x.digest();
                default -> throw new IllegalArgumentException("no such call: " + this);
            };
        }

        boolean onlyTells() {
            return ONLY_TELL.contains(name);
        }

        @Override
        public String toString() {
            StringBuilder text = new StringBuilder(name).append('(');
            for (int i = 0; i < of.length; i++) {
                text.append(i > 0 ? ", " : "").append(of[i]);
            }
            return text.append(')').toString();
        }
    }

    private final Due due;
    private final String sentence;
    private final WheatSea x = new WheatSea();
    private final List<Call> changes = new ArrayList<>();
    private int calls;

    private Story(Due due, String sentence) {
        this.due = due;
        this.sentence = sentence;
    }

    static void tell(Due due, String sentence, String... steps) {
        Story story = new Story(due, sentence);
        for (String step : steps) {
            story.step(step);
        }
        story.end();
    }

    private void step(String step) {
        if (step.startsWith("plain ")) {
            step("type " + step.substring(6));
            make(new Call("plain", new int[0]));
        } else if (step.startsWith("type ")) {
            for (char letter : step.substring(5).toCharArray()) {
                make(new Call("letter", new int[] {letter}));
            }
        } else if (step.matches("\\d+ x .*")) {
            int times = Integer.parseInt(step.substring(0, step.indexOf(' ')));
            for (int i = 0; i < times; i++) {
                step(step.substring(step.indexOf('x') + 2));
            }
        } else {
            String[] sides = step.split(" = ");
            Call call = Call.parsed(sides[0]);
            long answer = make(call);
            if (sides.length > 1) {
                due.same(sentence + ": " + call + ", call " + calls, answer, longNumber(sides[1].trim()));
            }
        }
    }

    private long make(Call call) {
        long answer = call.on(x);
        calls++;
        boolean refused = answer <= WheatSea.UNKNOWN && answer >= WheatSea.FULL;
        if (!refused && !call.onlyTells()) {
            changes.add(call);
        }
        return answer;
    }

    private void end() {
        WheatSea twin = new WheatSea();
        for (Call change : changes) {
            change.on(twin);
        }
        due.same(sentence + ": calls within " + MOST_CALLS, Math.max(calls + All.CALLS, MOST_CALLS), MOST_CALLS);
        All.same(due, sentence + ": refusals and telling change nothing", x, twin);
    }

    private static int number(String text) {
        return (int) longNumber(text);
    }

    private static long longNumber(String text) {
        return switch (text) {
            case "NONE" -> Due.NONE;
            case "UNKNOWN" -> Due.UNKNOWN;
            case "OUTSIDE" -> Due.OUTSIDE;
            case "STATE" -> Due.STATE;
            case "FULL" -> Due.FULL;
            case "MIN" -> Integer.MIN_VALUE;
            case "MAX" -> Integer.MAX_VALUE;
            default -> Long.parseLong(text);
        };
    }
}
