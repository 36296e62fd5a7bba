/** Promises 9 to 12: hulls. */
public final class HullTest {
    private static final Due due = new Due("HullTest");
    private static final String HIGH = "9999,9999,9999;9";

    public static void main(String[] args) {
        hull();
        about();
        stranded();
        strandedByTheReaper();
        hoursByWindAndKind();
        hoursAtTheRim();
        hoursAheadOfTheReaper();
        as();
        sail();
        sailRefused();
        sailAtTheEndOfHours();
        due.end();
    }

    private static void hull() {
        WheatSea x = Due.read(HIGH);
        due.same("9: hull(5, 1, 0)", x.hull(5, 1, 0), Due.OUTSIDE);
        due.same("9: hull(0, 0, 0)", x.hull(0, 0, 0), Due.OUTSIDE);
        due.same("9: hull(0, 10, 0)", x.hull(0, 10, 0), Due.OUTSIDE);
        due.same("9: hull(0, 1, 12)", x.hull(0, 1, 12), Due.UNKNOWN);
        due.same("9: kind OUTSIDE ahead of UNKNOWN", x.hull(5, 1, 12), Due.OUTSIDE);
        due.same("9: draught OUTSIDE ahead of UNKNOWN", x.hull(0, 10, 12), Due.OUTSIDE);
        for (int wild : Due.WILD) {
            due.same("9: hull(" + wild + ", 1, 0)", x.hull(wild, 1, 0), Due.OUTSIDE);
            due.same("9: hull(0, " + wild + ", 0)", x.hull(0, wild, 0), Due.OUTSIDE);
            due.same("9: hull(0, 1, " + wild + ")", x.hull(0, 1, wild), Due.UNKNOWN);
        }
        due.same("9: refusals made none", x.count(2), 0);
        due.same("9: hull(0, 1, 0)", x.hull(0, 1, 0), 0);
        due.same("9: hull(4, 9, 11)", x.hull(4, 9, 11), 1);
        due.same("9: hull(2, 5, 11)", x.hull(2, 5, 11), 2);
        due.same("9: a fourth", x.hull(0, 1, 0), Due.FULL);
        due.same("9: OUTSIDE ahead of FULL", x.hull(0, 0, 0), Due.OUTSIDE);
        due.same("9: UNKNOWN ahead of FULL", x.hull(0, 1, 12), Due.UNKNOWN);
        due.same("9: three", x.count(2), 3);
        WheatSea none = new WheatSea();
        due.same("9: UNKNOWN without a PLAIN", none.hull(0, 1, 0), Due.UNKNOWN);
        due.same("9: OUTSIDE without a PLAIN", none.hull(0, 0, 0), Due.OUTSIDE);
    }

    private static void about() {
        WheatSea x = Due.read(HIGH);
        for (int kind = 0; kind < 5; kind++) {
            WheatSea y = Due.read(HIGH);
            y.hull(kind, kind + 3, 2 * kind);
            due.same("10: KIND " + kind, y.about(0, 0), kind);
            due.same("10: its DRAUGHT", y.about(0, 1), kind + 3);
            due.same("10: its CELL", y.about(0, 2), 2 * kind);
            due.same("10: not STRANDED", y.about(0, 3), 0);
            due.same("10: its HOURS", y.about(0, 4), 0);
        }
        x.hull(0, 1, 5);
        due.same("10: about(1, 0)", x.about(1, 0), Due.UNKNOWN);
        due.same("10: about(0, 5)", x.about(0, 5), Due.OUTSIDE);
        due.same("10: about(0, 9)", x.about(0, 9), Due.OUTSIDE);
        due.same("10: about(0, 14)", x.about(0, 14), Due.OUTSIDE);
        due.same("10: UNKNOWN ahead of OUTSIDE", x.about(1, 5), Due.UNKNOWN);
        for (int wild : Due.WILD) {
            due.same("10: about(" + wild + ", 0)", x.about(wild, 0), Due.UNKNOWN);
            due.same("10: about(0, " + wild + ")", x.about(0, wild), Due.OUTSIDE);
        }
    }

    /** What it draws against how high the corn is. */
    private static void stranded() {
        int[] drawsLess = {0, 1, 0, 9, 1};
        for (int kind = 0; kind < 5; kind++) {
            for (int draught = 1; draught <= 9; draught++) {
                for (int high = 0; high <= 9; high++) {
                    WheatSea x = Due.read("0000,0" + high + "00,0000;9");
                    x.hull(kind, draught, 5);
                    int want = high >= draught - drawsLess[kind] ? 0 : 1;
                    String call = "10: STRANDED, kind " + kind + " draught " + draught + " in " + high;
                    due.same(call, x.about(0, 3), want);
                    due.same("23: count(3), " + call, x.count(3), want);
                }
            }
        }
    }

    private static void strandedByTheReaper() {
        WheatSea x = Due.read("5555,5555,5555;2");
        x.hull(0, 5, 4);
        x.hull(1, 1, 4);
        x.hull(3, 9, 4);
        x.pass(9);
        due.same("10: it FLOATS an HOUR ahead", x.about(0, 3), 0);
        x.pass(1);
        due.same("10: STRANDED in stubble", x.about(0, 3), 1);
        due.same("10: a SLOOP of DRAUGHT 1 FLOATS on stubble", x.about(1, 3), 0);
        due.same("10: a SLED FLOATS on stubble", x.about(2, 3), 0);
        due.same("10: STRANDED it can sail no WAY", x.about(0, 10), Due.NONE);
        due.same("10: the HOURS it SAILED are none", x.about(0, 4), 0);
    }

    private static void hoursByWindAndKind() {
        // Rows: kind; columns: with the WIND, across it, against it, without.
        int[][] lasts = {{1, 2, -1, 3}, {1, 2, -1, 3}, {1, 2, 4, 3}, {2, 3, -1, 4}, {1, 2, 3, 2}};
        for (int kind = 0; kind < 5; kind++) {
            for (int wind = 0; wind <= 4; wind++) {
                for (int way = 0; way < 4; way++) {
                    WheatSea x = Due.read(HIGH);
                    x.wind(wind);
                    x.hull(kind, 3, 5);
                    int turn = wind == 4 ? 3 : way == wind ? 0 : (way + wind) % 2 == 1 ? 1 : 2;
                    int want = lasts[kind][turn];
                    String call = "kind " + kind + ", WIND " + wind + ", WAY " + way;
                    due.same("10: " + call, x.about(0, 10 + way), want);
                    int[] cells = {6, 9, 4, 1};
                    due.same("12: " + call, x.sail(0, way), want < 0 ? Due.STATE : want);
                    due.same("12: its CELL, " + call, x.about(0, 2), want < 0 ? 5 : cells[way]);
                    due.same("12: its HOURS, " + call, x.about(0, 4), want < 0 ? 0 : want);
                    due.same("12: the HOUR, " + call, x.count(4), want < 0 ? 0 : want);
                    due.same("12: the WIND stays, " + call, x.count(5), wind);
                }
            }
        }
    }

    private static void hoursAtTheRim() {
        for (int cell = 0; cell < 12; cell++) {
            WheatSea x = Due.read(HIGH);
            x.hull(0, 1, cell);
            due.same("10: right of " + cell, x.about(0, 10), cell % 4 == 3 ? -1 : 3);
            due.same("10: down of " + cell, x.about(0, 11), cell >= 8 ? -1 : 3);
            due.same("10: left of " + cell, x.about(0, 12), cell % 4 == 0 ? -1 : 3);
            due.same("10: up of " + cell, x.about(0, 13), cell < 4 ? -1 : 3);
        }
    }

    private static void hoursAheadOfTheReaper() {
        // Cell 1 is cut at 4, cell 4 at 10: it comes to cell 1 at hour + 3.
        WheatSea x = Due.read("9900,9000,0000;2");
        x.hull(0, 2, 0);
        due.same("10: there an HOUR ahead of the REAPER", x.about(0, 10), 3);
        x.pass(1);
        due.same("10: the REAPER is there at that HOUR", x.about(0, 10), Due.NONE);
        due.same("10: the other WAY it can", x.about(0, 11), 3);
        x.pass(1);
        due.same("10: it is STRANDED itself", x.about(0, 11), Due.NONE);
        due.same("12: it is STRANDED itself", x.sail(0, 1), Due.STATE);

        // A cell cut behind it while it is under way does not matter.
        WheatSea y = Due.read("9000,9000,0000;2");
        y.hull(0, 2, 0);
        y.pass(1);
        due.same("12: it is cut behind it", y.sail(0, 1), 4);
        due.same("12: it is there", y.about(0, 2), 4);
    }

    private static void as() {
        int[][] is = {{1, 0, 0, 0, 0}, {1, 1, 0, 0, 0}, {1, 0, 1, 0, 0}, {1, 0, 0, 1, 0}, {1, 1, 0, 0, 1}};
        for (int kind = 0; kind < 5; kind++) {
            WheatSea x = Due.read(HIGH);
            x.hull(0, 1, 1);
            x.hull(kind, 2, 3);
            for (int taken = 0; taken < 5; taken++) {
                due.same("11: " + kind + " as " + taken, x.as(1, taken), is[kind][taken] == 1 ? 1 : Due.NONE);
            }
        }
        WheatSea x = Due.read(HIGH);
        x.hull(4, 1, 1);
        due.same("11: as(0, 1)", x.as(0, 1), 0);
        due.same("11: as(1, 0)", x.as(1, 0), Due.UNKNOWN);
        due.same("11: as(0, 5)", x.as(0, 5), Due.OUTSIDE);
        due.same("11: UNKNOWN ahead of OUTSIDE", x.as(1, 5), Due.UNKNOWN);
        for (int wild : Due.WILD) {
            due.same("11: as(" + wild + ", 0)", x.as(wild, 0), Due.UNKNOWN);
            due.same("11: as(0, " + wild + ")", x.as(0, wild), Due.OUTSIDE);
        }
        due.same("11: it stays of its KIND", x.about(0, 0), 4);
    }

    private static void sail() {
        WheatSea x = Due.read(HIGH);
        x.hull(0, 1, 5);
        x.hull(2, 1, 5);
        x.wind(0);
        due.same("12: right, with the WIND", x.sail(0, 0), 1);
        due.same("12: down, across", x.sail(0, 1), 3);
        due.same("12: left, against: a GALLEY", x.sail(1, 2), 7);
        due.same("12: a HULL on its CELL", x.about(0, 2), 10);
        due.same("12: the GALLEY on its CELL", x.about(1, 2), 4);
        due.same("12: only its own HOURS", x.about(0, 4), 3);
        due.same("12: the GALLEY's HOURS", x.about(1, 4), 4);
        x.pass(5);
        due.same("10: hours that go by are not SAILED", x.about(0, 4), 3);
    }

    private static void sailRefused() {
        WheatSea x = Due.read("9909,9999,9999;9");
        x.hull(0, 2, 1);
        x.wind(1);
        long before = x.digest();
        due.same("12: sail(1, 0)", x.sail(1, 0), Due.UNKNOWN);
        due.same("12: sail(0, 4)", x.sail(0, 4), Due.OUTSIDE);
        due.same("12: UNKNOWN ahead of OUTSIDE", x.sail(1, 4), Due.UNKNOWN);
        due.same("12: no corn there", x.sail(0, 0), Due.STATE);
        due.same("12: no cell there", x.sail(0, 3), Due.STATE);
        for (int wild : Due.WILD) {
            due.same("12: sail(" + wild + ", 0)", x.sail(wild, 0), Due.UNKNOWN);
            due.same("12: sail(0, " + wild + ")", x.sail(0, wild), Due.OUTSIDE);
        }
        due.same("12: refusals change nothing", x.digest(), before);
    }

    private static void sailAtTheEndOfHours() {
        WheatSea x = Due.read(HIGH);
        x.hull(3, 9, 5);
        for (int i = 0; i < 33; i++) {
            x.pass(30);
        }
        x.pass(5);
        due.same("12: to HOUR 999", x.sail(0, 0), 999);
        due.same("12: above 999", x.sail(0, 2), Due.STATE);
        due.same("10: what it needs is told above 999, too", x.about(0, 12), 4);
        due.same("12: its HOURS", x.about(0, 4), 4);
        due.same("13: beyond HOUR 999, too", x.voyage(0, 5, 0), 1003);
        due.same("20: beyond HOUR 999, too", x.junes(1, 1, 2) >= 999 ? 1 : 0, 1);
    }
}
