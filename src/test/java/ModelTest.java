/** Long runs of calls, the same on WheatSea and on SlowSea: every answer must be alike. */
public final class ModelTest {
    private static final int RUNS = 500;
    private static final int CALLS = 512;

    private final Due due = new Due("ModelTest");
    private long seed;
    private WheatSea x;
    private SlowSea y;
    private String run;

    public static void main(String[] args) {
        ModelTest test = new ModelTest();
        int runs = args.length > 0 ? Integer.parseInt(args[0]) : RUNS;
        for (int run = 1; run <= runs && !test.due.isWrong(); run++) {
            test.oneRun(run);
        }
        test.due.end();
    }

    private void oneRun(int number) {
        seed = number * 7919L + 17;
        run = "run " + number;
        x = new WheatSea();
        y = new SlowSea();
        int calls = 0;
        if (drawn(10) > 0) {
            calls += readPlain();
        }
        int mood = drawn(4);
        for (; calls < CALLS - 20 && !due.isWrong(); calls++) {
            calls += oneCall(mood);
        }
        due.same(run + ": digest()", x.digest(), y.digest());
    }

    /** A generator of its own, so that the runs are the same everywhere and always. */
    private int drawn(int sides) {
        seed = seed * 6364136223846793005L + 1442695040888963407L;
        return (int) ((seed >>> 33) % sides);
    }

    /** Mostly from 0 to below the bound, now and then just beside it or wild. */
    private int number(int bound) {
        if (drawn(40) > 0) {
            return drawn(bound);
        }
        int[] odd = {-1, bound, bound + 1, -2, Integer.MIN_VALUE, Integer.MAX_VALUE, 12, 100};
        return odd[drawn(odd.length)];
    }

    private String plainText() {
        int style = drawn(5);
        StringBuilder text = new StringBuilder();
        for (int cell = 0; cell < 12; cell++) {
            int high = style == 0 ? 9 : style == 1 ? drawn(10) : style == 2 ? drawn(4) * 3
                    : style == 3 ? (drawn(4) == 0 ? 0 : 5) : 4 + drawn(3);
            text.append(high);
            if (cell % 4 == 3) {
                text.append(cell == 11 ? ';' : ',');
            }
        }
        return text.append(1 + drawn(9)).toString();
    }

    private int readPlain() {
        String text = plainText();
        same("blank()", x.blank(), y.blank());
        for (int i = 0; i < text.length(); i++) {
            same("letter(" + (int) text.charAt(i) + ")", x.letter(text.charAt(i)), y.letter(text.charAt(i)));
        }
        same("fault()", x.fault(), y.fault());
        same("plain() of " + text, x.plain(), y.plain());
        return text.length() + 3;
    }

    private void same(String call, long got, long want) {
        due.same(run + ": " + call, got, want);
    }

    /** Answers how many calls more than one it made. */
    private int oneCall(int mood) {
        if (drawn(200) == 0) {
            return readPlain() - 1;
        }
        int kind = drawn(28);
        if (kind < 4) {
            pageCall(kind);
        } else if (kind < 14) {
            hullCall(kind, mood);
        } else if (kind < 21) {
            voyageCall(kind);
        } else {
            otherCall(kind);
        }
        return 0;
    }

    private void pageCall(int kind) {
        if (kind == 0) {
            int code = drawn(3) > 0 ? ("0123456789,;".charAt(drawn(12))) : number(127);
            same("letter(" + code + ")", x.letter(code), y.letter(code));
        } else if (kind == 1 && drawn(3) == 0) {
            same("blank()", x.blank(), y.blank());
        } else if (kind == 2) {
            same("fault()", x.fault(), y.fault());
        } else if (kind == 3) {
            same("plain()", x.plain(), y.plain());
        }
    }

    private void hullCall(int kind, int mood) {
        int a = number(drawn(3) == 0 ? 3 : 4);
        int b = number(5);
        int cell = number(12);
        switch (kind) {
            case 4:
                same("wind(" + b + ")", x.wind(b), y.wind(b));
                break;
            case 5:
                int hours = mood == 0 ? number(31) : mood == 1 ? 1 : 1 + drawn(4);
                if (mood == 0 || drawn(4) == 0) {
                    same("pass(" + hours + ")", x.pass(hours), y.pass(hours));
                }
                break;
            case 6:
                int draught = drawn(2) == 0 ? number(10) : 1 + drawn(4);
                same("hull(" + b + ", " + draught + ", " + cell + ")", x.hull(b, draught, cell), y.hull(b, draught, cell));
                break;
            case 7:
            case 8:
                int what = drawn(2) == 0 ? number(5) : 10 + number(4);
                same("about(" + a + ", " + what + ")", x.about(a, what), y.about(a, what));
                break;
            case 9:
                same("as(" + a + ", " + b + ")", x.as(a, b), y.as(a, b));
                break;
            case 10:
                int corn = number(4);
                same("cell(" + cell + ", " + corn + ")", x.cell(cell, corn), y.cell(cell, corn));
                break;
            default:
                int way = number(4);
                if (mood < 3 || drawn(3) == 0) {
                    same("sail(" + a + ", " + way + ")", x.sail(a, way), y.sail(a, way));
                }
        }
    }

    private void voyageCall(int kind) {
        int hull = number(3);
        int cell = number(12);
        switch (kind) {
            case 14:
            case 15:
                int what = number(2);
                same("voyage(" + hull + ", " + cell + ", " + what + ")", x.voyage(hull, cell, what), y.voyage(hull, cell, what));
                break;
            case 16:
                same("latest(" + hull + ", " + cell + ")", x.latest(hull, cell), y.latest(hull, cell));
                break;
            case 17:
                same("bestWind(" + hull + ", " + cell + ")", x.bestWind(hull, cell), y.bestWind(hull, cell));
                break;
            default:
                int of = drawn(2) == 0 ? number(2) : 10 + number(3);
                same("home(" + cell + ", " + of + ")", x.home(cell, of), y.home(cell, of));
        }
    }

    private void otherCall(int kind) {
        int hull = number(3);
        switch (kind) {
            case 21:
                int cell = number(12);
                int hour = drawn(2) == 0 ? number(41) : number(8);
                same("see(" + hull + ", " + cell + ", " + hour + ")", x.see(hull, cell, hour), y.see(hull, cell, hour));
                break;
            case 22:
            case 23:
                same("start(" + hull + ")", x.start(hull), y.start(hull));
                break;
            case 24:
                int times = number(21);
                int from = drawn(2) == 0 ? number(1000) : number(Integer.MAX_VALUE);
                int what = number(4);
                same("junes(" + times + ", " + from + ", " + what + ")", x.junes(times, from, what), y.junes(times, from, what));
                break;
            case 25:
                int count = number(9);
                same("count(" + count + ")", x.count(count), y.count(count));
                break;
            case 26:
                rareCall();
                break;
            default:
                if (drawn(4) == 0) {
                    same("digest()", x.digest(), y.digest());
                }
        }
    }

    private void rareCall() {
        switch (drawn(5)) {
            case 0:
                same("image()", x.image(), y.image());
                break;
            case 1:
                same("forget()", x.forget(), y.forget());
                break;
            default:
                same("restore()", x.restore(), y.restore());
        }
    }
}
