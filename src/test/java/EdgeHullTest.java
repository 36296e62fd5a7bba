/** Promises 9 to 12, and HULLS and SAILING of the Terms, each sentence that names a boundary case by itself. */
public final class EdgeHullTest {
    private static final Due due = new Due("EdgeHullTest");
    private static final String HIGH = "plain 9999,9999,9999;9";
    private static final String STUBBLE = "plain 0000,0000,0000;9";

    public static void main(String[] args) {
        hull();
        hullRefused();
        floats();
        floatsAheadOfTheReaper();
        lasts();
        setsOut();
        comesThereAheadOfTheReaper();
        about();
        aboutRefused();
        as();
        sail();
        sailRefused();
        sailToTheLastHour();
        due.end();
    }

    private static void tell(String sentence, String... steps) {
        Story.tell(due, sentence, steps);
    }

    private static void hull() {
        tell("9: HULLS (3 at most, numbered)", HIGH, "hull(0, 1, 0) = 0", "count(2) = 1", "hull(1, 1, 0) = 1",
                "hull(2, 1, 0) = 2", "count(2) = 3", "hull(3, 1, 0) = FULL", "hull(0, 1, 0) = FULL", "count(2) = 3");
        tell("9: OUTSIDE: kind (0 to 4)", HIGH, "hull(0, 1, 0) = 0", "hull(4, 1, 0) = 1", "hull(-1, 1, 0) = OUTSIDE",
                "hull(5, 1, 0) = OUTSIDE", "hull(MIN, 1, 0) = OUTSIDE", "hull(MAX, 1, 0) = OUTSIDE", "count(2) = 2");
        tell("9: OUTSIDE: draught (1 to 9)", HIGH, "hull(0, 1, 0) = 0", "hull(0, 9, 0) = 1", "hull(0, 0, 0) = OUTSIDE",
                "hull(0, 10, 0) = OUTSIDE", "hull(0, -1, 0) = OUTSIDE", "hull(0, MIN, 0) = OUTSIDE",
                "hull(0, MAX, 0) = OUTSIDE", "hull(3, 0, 0) = OUTSIDE", "hull(3, 10, 0) = OUTSIDE",
                "hull(1, 0, 0) = OUTSIDE", "count(2) = 2");
        tell("9: UNKNOWN: cell (0 to 11)", HIGH, "hull(0, 1, 0) = 0", "hull(0, 1, 11) = 1", "hull(0, 1, -1) = UNKNOWN",
                "hull(0, 1, 12) = UNKNOWN", "hull(0, 1, MIN) = UNKNOWN", "hull(0, 1, MAX) = UNKNOWN", "count(2) = 2");
        tell("9: several may be on one CELL", HIGH, "hull(0, 1, 7) = 0", "hull(0, 1, 7) = 1", "hull(0, 1, 7) = 2",
                "cell(7, 3) = 3");
        tell("9: a HULL that is STRANDED at once is one, too", STUBBLE, "hull(0, 1, 7) = 0", "about(0, 3) = 1",
                "hull(2, 9, 7) = 1", "count(3) = 2");
        tell("9: at any HOUR", HIGH, "33 x pass(30)", "pass(9)", "hull(3, 1, 7) = 0", "count(4) = 999");
    }

    private static void hullRefused() {
        tell("9: OUTSIDE comes ahead of UNKNOWN", HIGH, "hull(-1, 1, -1) = OUTSIDE", "hull(5, 1, 12) = OUTSIDE",
                "hull(0, 0, -1) = OUTSIDE", "hull(0, 10, 12) = OUTSIDE", "hull(5, 10, MAX) = OUTSIDE",
                "hull(MIN, MIN, MIN) = OUTSIDE");
        tell("9: OUTSIDE comes ahead of FULL", HIGH, "3 x hull(0, 1, 0)", "hull(5, 1, 0) = OUTSIDE",
                "hull(0, 0, 0) = OUTSIDE", "hull(0, 10, 12) = OUTSIDE", "hull(-1, 1, -1) = OUTSIDE");
        tell("9: UNKNOWN comes ahead of FULL", HIGH, "3 x hull(0, 1, 0)", "hull(0, 1, -1) = UNKNOWN",
                "hull(4, 9, 12) = UNKNOWN", "hull(0, 1, MAX) = UNKNOWN", "hull(0, 1, 0) = FULL");
        tell("9: UNKNOWN without a PLAIN", "hull(0, 1, 0) = UNKNOWN", "hull(0, 1, 12) = UNKNOWN",
                "hull(5, 1, 0) = OUTSIDE", "hull(0, 0, 0) = OUTSIDE", "hull(0, 10, 0) = OUTSIDE", "count(2) = 0");
    }

    /** For each KIND and DRAUGHT: the least corn that will do, and the first that will not. */
    private static void floats() {
        int[] less = {0, 1, 0, 0, 1};
        for (int kind = 0; kind < 5; kind++) {
            for (int draught = 1; draught <= 9; draught++) {
                int needs = kind == 3 ? 0 : draught - less[kind];
                String one = "10: KIND " + kind + " of DRAUGHT " + draught;
                tell(one + " FLOATS in corn " + needs + " HIGH", "plain 0000,0" + needs + "00,0000;9",
                        "hull(" + kind + ", " + draught + ", 5)", "about(0, 3) = 0", "count(3) = 0");
                if (needs > 0) {
                    tell(one + " is STRANDED in corn 1 less HIGH", "plain 9999,9" + (needs - 1) + "99,9999;9",
                            "hull(" + kind + ", " + draught + ", 5)", "about(0, 3) = 1", "count(3) = 1");
                }
            }
        }
    }

    private static void floatsAheadOfTheReaper() {
        tell("10: it FLOATS until the REAPER has cut the CELL", "plain 9999,9999,9999;3", "hull(0, 9, 1)",
                "hull(1, 1, 1)", "hull(3, 9, 1)", "pass(5)", "about(0, 3) = 0", "pass(1)", "about(0, 3) = 1",
                "about(1, 3) = 0", "about(2, 3) = 0", "count(3) = 1");
        tell("10: a SLOOP of DRAUGHT 2 is STRANDED there, as is a CUTTER", "plain 9999,9999,9999;3", "hull(1, 2, 1)",
                "hull(4, 2, 1)", "hull(4, 1, 1)", "pass(5)", "count(3) = 0", "pass(1)", "about(0, 3) = 1",
                "about(1, 3) = 1", "about(2, 3) = 0", "count(3) = 2");
    }

    private static void lasts() {
        // By KIND: with the WIND, across it, against it, without.
        String[][] lasts = {{"1", "2", "NONE", "3"}, {"1", "2", "NONE", "3"}, {"1", "2", "4", "3"},
            {"2", "3", "NONE", "4"}, {"1", "2", "3", "2"}};
        for (int kind = 0; kind < 5; kind++) {
            for (int wind = 0; wind < 4; wind++) {
                int against = wind < 2 ? wind + 2 : wind - 2;
                for (int way = 0; way < 4; way++) {
                    int turn = way == wind ? 0 : way == against ? 2 : 1;
                    lasts(kind, wind, way, lasts[kind][turn]);
                }
            }
            for (int way = 0; way < 4; way++) {
                lasts(kind, 4, way, lasts[kind][3]);
            }
        }
    }

    private static void lasts(int kind, int wind, int way, String hours) {
        int[] beside = {6, 9, 4, 1};
        boolean cannot = hours.equals("NONE");
        tell("10: KIND " + kind + ", WIND " + wind + ", WAY " + way, HIGH, "hull(" + kind + ", 1, 5)",
                "wind(" + wind + ")", "about(0, 1" + way + ") = " + hours,
                "sail(0, " + way + ") = " + (cannot ? "STATE" : hours), "count(4) = " + (cannot ? "0" : hours),
                "about(0, 4) = " + (cannot ? "0" : hours), "about(0, 2) = " + (cannot ? 5 : beside[way]),
                "count(5) = " + wind);
    }

    private static void setsOut() {
        tell("10: it can set out, if it is not STRANDED", "plain 9999,9199,9999;9", "hull(0, 2, 5)", "about(0, 3) = 1",
                "about(0, 10) = NONE", "about(0, 11) = NONE", "about(0, 12) = NONE", "about(0, 13) = NONE",
                "sail(0, 0) = STATE", "sail(0, 1) = STATE", "sail(0, 2) = STATE", "sail(0, 3) = STATE",
                "hull(0, 1, 5)", "about(1, 10) = 3", "sail(1, 0) = 3");
        tell("10: it can set out, until the REAPER is there", "plain 9999,9999,9999;2", "hull(0, 9, 5)", "pass(11)",
                "about(0, 10) = NONE", "about(0, 11) = 3", "pass(1)", "about(0, 11) = NONE", "sail(0, 1) = STATE");
        tell("10: a SLED and a SLOOP of DRAUGHT 1 set out from stubble into stubble", STUBBLE, "hull(3, 9, 5)",
                "hull(1, 1, 5)", "hull(4, 1, 5)", "about(0, 10) = 4", "about(1, 10) = 3", "about(2, 10) = 2",
                "33 x pass(30)", "sail(2, 0) = 992");
        for (int cell = 0; cell < 12; cell++) {
            // Where there is a CELL that WAY, it is told again that it SAILS to just that one.
            atTheRim(cell, 0, cell == 3 || cell == 7 || cell == 11, cell + 1);
            atTheRim(cell, 1, cell >= 8, cell + 4);
            atTheRim(cell, 2, cell == 0 || cell == 4 || cell == 8, cell - 1);
            atTheRim(cell, 3, cell <= 3, cell - 4);
        }
        tell("10: it FLOATS there: corn as HIGH as its DRAUGHT will do, 1 less will not", "plain 9999,9594,9999;9",
                "hull(0, 5, 6)", "hull(1, 5, 6)", "hull(1, 6, 6)", "about(0, 12) = 3", "about(0, 10) = NONE",
                "about(1, 10) = 3", "about(2, 10) = NONE", "sail(0, 0) = STATE", "sail(0, 2) = 3");
    }

    private static void atTheRim(int cell, int way, boolean rim, int there) {
        tell("10: there is a CELL that WAY: " + cell + ", WAY " + way, HIGH, "hull(0, 1, " + cell + ")",
                "about(0, 1" + way + ") = " + (rim ? "NONE" : "3"), "sail(0, " + way + ") = " + (rim ? "STATE" : "3"),
                "about(0, 2) = " + (rim ? cell : there), "count(4) = " + (rim ? 0 : 3));
    }

    private static void comesThereAheadOfTheReaper() {
        // At REAP 1 CELL 1 is cut at 2, CELL 4 at 5, CELL 2 at 3.
        tell("10: it comes there an HOUR ahead of the REAPER", "plain 9999,9999,9999;1", "hull(0, 9, 0)", "wind(0)",
                "about(0, 10) = 1", "sail(0, 0) = 1");
        tell("10: it comes there at the HOUR of the REAPER", "plain 9999,9999,9999;1", "hull(0, 9, 0)", "wind(1)",
                "about(0, 10) = NONE", "sail(0, 0) = STATE", "about(0, 11) = 1");
        tell("10: it comes there behind the REAPER", "plain 9999,9999,9999;1", "hull(0, 9, 0)", "about(0, 10) = NONE",
                "sail(0, 0) = STATE");
        tell("10: what it left may be cut meanwhile", "plain 9999,9999,9999;1", "hull(0, 9, 0)", "about(0, 11) = 3",
                "sail(0, 1) = 3", "cell(0, 0) = 0", "about(0, 3) = 0");
        tell("10: at REAP 9 the last HOUR to come to CELL 11 is 107", "plain 9999,9999,9999;9", "hull(0, 9, 10)",
                "3 x pass(30)", "pass(8)", "wind(0)", "about(0, 10) = 1", "wind(4)", "pass(1) = 99",
                "about(0, 10) = NONE", "about(0, 3) = 1");
        tell("10: the same on CELL 7, up to it from CELL 11", "plain 9999,9999,9999;9", "hull(0, 9, 11)",
                "2 x pass(30)", "pass(8)", "about(0, 13) = 3", "pass(1) = 69", "about(0, 13) = NONE", "wind(3)",
                "about(0, 13) = 1", "pass(2) = 71", "about(0, 13) = NONE");
        tell("10: stubble will do for a SLED, a SLOOP and a CUTTER of DRAUGHT 1", "plain 9999,9999,9999;1",
                "hull(3, 9, 0)", "hull(1, 1, 0)", "hull(4, 1, 0)", "pass(30)", "about(0, 10) = 4", "about(1, 10) = 3",
                "about(2, 10) = 2");
    }

    private static void about() {
        tell("10: KIND, DRAUGHT, CELL: the least ones", HIGH, "hull(0, 1, 0)", "about(0, 0) = 0", "about(0, 1) = 1",
                "about(0, 2) = 0", "about(0, 3) = 0", "about(0, 4) = 0");
        tell("10: KIND, DRAUGHT, CELL: the greatest ones", HIGH, "2 x hull(0, 1, 0)", "hull(4, 9, 11)",
                "about(2, 0) = 4", "about(2, 1) = 9", "about(2, 2) = 11", "about(2, 3) = 0", "about(2, 4) = 0");
        tell("10: HOURS that it SAILED: its own, and none that go by", HIGH, "hull(0, 1, 5)", "hull(4, 1, 5)", "wind(0)",
                "pass(1)", "sail(0, 0)", "sail(0, 1)", "sail(1, 2)", "pass(30)", "about(0, 4) = 3", "about(1, 4) = 3",
                "count(4) = 37");
    }

    private static void aboutRefused() {
        tell("10: UNKNOWN: hull", HIGH, "about(0, 0) = UNKNOWN", "hull(0, 1, 5)", "about(0, 0) = 0",
                "about(1, 0) = UNKNOWN", "about(-1, 0) = UNKNOWN", "about(MIN, 0) = UNKNOWN", "about(MAX, 0) = UNKNOWN",
                "2 x hull(0, 1, 5)", "about(2, 0) = 0", "about(3, 0) = UNKNOWN");
        tell("10: OUTSIDE: what (0 to 4, 10 to 13)", HIGH, "hull(0, 1, 5)", "about(0, 0) = 0", "about(0, 4) = 0",
                "about(0, 10) = 3", "about(0, 13) = 3", "about(0, -1) = OUTSIDE", "about(0, 5) = OUTSIDE",
                "about(0, 9) = OUTSIDE", "about(0, 14) = OUTSIDE", "about(0, MIN) = OUTSIDE",
                "about(0, MAX) = OUTSIDE", "about(0, -10) = OUTSIDE");
        tell("10: UNKNOWN comes ahead of OUTSIDE", HIGH, "hull(0, 1, 5)", "about(1, -1) = UNKNOWN",
                "about(1, 5) = UNKNOWN", "about(-1, 14) = UNKNOWN", "about(MAX, MAX) = UNKNOWN");
        tell("10: UNKNOWN without a PLAIN", "about(0, 0) = UNKNOWN", "about(0, 5) = UNKNOWN", "about(2, 13) = UNKNOWN");
    }

    private static void as() {
        String[] is = {"10000", "11000", "10100", "10010", "11001"};
        for (int kind = 0; kind < 5; kind++) {
            for (int taken = 0; taken < 5; taken++) {
                boolean such = is[kind].charAt(taken) == '1';
                tell("11: KIND " + kind + " taken as " + taken, HIGH, "hull(" + (4 - kind) + ", 1, 0)",
                        "hull(" + kind + ", 1, 0)", "as(1, " + taken + ") = " + (such ? "1" : "NONE"),
                        "about(1, 0) = " + kind);
            }
        }
        tell("11: its number, the first one's and the last one's", HIGH, "3 x hull(4, 1, 0)", "as(0, 1) = 0",
                "as(2, 1) = 2", "as(2, 4) = 2", "as(2, 0) = 2");
        tell("11: UNKNOWN: hull", HIGH, "as(0, 0) = UNKNOWN", "hull(0, 1, 5)", "as(0, 0) = 0", "as(1, 0) = UNKNOWN",
                "as(-1, 0) = UNKNOWN", "as(MIN, 0) = UNKNOWN", "as(MAX, 0) = UNKNOWN", "2 x hull(0, 1, 5)",
                "as(2, 0) = 2", "as(3, 0) = UNKNOWN");
        tell("11: OUTSIDE: kind (0 to 4)", HIGH, "hull(4, 1, 5)", "as(0, 0) = 0", "as(0, 4) = 0", "as(0, -1) = OUTSIDE",
                "as(0, 5) = OUTSIDE", "as(0, MIN) = OUTSIDE", "as(0, MAX) = OUTSIDE");
        tell("11: UNKNOWN comes ahead of OUTSIDE", HIGH, "hull(4, 1, 5)", "as(1, 5) = UNKNOWN", "as(-1, -1) = UNKNOWN",
                "as(MAX, MIN) = UNKNOWN");
        tell("11: UNKNOWN without a PLAIN", "as(0, 0) = UNKNOWN", "as(0, 5) = UNKNOWN");
    }

    private static void sail() {
        tell("12: it SAILS one WAY: the HOUR then", HIGH, "hull(0, 1, 10)", "sail(0, 0) = 3", "about(0, 2) = 11",
                "sail(0, 3) = 6", "about(0, 2) = 7", "sail(0, 2) = 9", "about(0, 2) = 6", "sail(0, 1) = 12",
                "about(0, 2) = 10", "about(0, 4) = 12", "count(4) = 12");
        tell("12: the last HULL alone", HIGH, "3 x hull(0, 1, 5)", "sail(2, 3) = 3", "about(2, 2) = 1",
                "about(1, 2) = 5", "about(0, 2) = 5", "about(1, 4) = 0");
        tell("12: onto a CELL where another one is", HIGH, "hull(0, 1, 5)", "hull(0, 1, 6)", "sail(0, 0) = 3",
                "cell(6, 3) = 2", "cell(5, 3) = 0");
    }

    private static void sailRefused() {
        tell("12: UNKNOWN: hull", HIGH, "sail(0, 0) = UNKNOWN", "hull(0, 1, 5)", "sail(1, 0) = UNKNOWN",
                "sail(-1, 0) = UNKNOWN", "sail(MIN, 0) = UNKNOWN", "sail(MAX, 0) = UNKNOWN", "2 x hull(0, 1, 5)",
                "sail(3, 0) = UNKNOWN", "sail(2, 0) = 3");
        tell("12: OUTSIDE: way (0 to 3)", HIGH, "hull(0, 1, 5)", "sail(0, -1) = OUTSIDE", "sail(0, 4) = OUTSIDE",
                "sail(0, MIN) = OUTSIDE", "sail(0, MAX) = OUTSIDE", "count(4) = 0", "sail(0, 0) = 3",
                "sail(0, 3) = 6");
        tell("12: UNKNOWN comes ahead of OUTSIDE", HIGH, "hull(0, 1, 5)", "sail(1, 4) = UNKNOWN",
                "sail(-1, -1) = UNKNOWN", "sail(MAX, MAX) = UNKNOWN");
        tell("12: OUTSIDE comes ahead of STATE", STUBBLE, "hull(0, 1, 5)", "sail(0, 4) = OUTSIDE",
                "sail(0, -1) = OUTSIDE", "sail(0, 0) = STATE");
        tell("12: STATE: it cannot, as there is no WIND but against it", HIGH, "hull(0, 1, 5)", "wind(2)",
                "sail(0, 0) = STATE", "about(0, 2) = 5", "about(0, 4) = 0", "count(4) = 0", "sail(0, 2) = 1");
        tell("12: UNKNOWN without a PLAIN", "sail(0, 0) = UNKNOWN", "sail(0, 4) = UNKNOWN");
    }

    private static void sailToTheLastHour() {
        tell("12: STATE: it would be above 999: 1 HOUR with the WIND", STUBBLE, "hull(4, 1, 5)", "wind(0)",
                "33 x pass(30)", "pass(8)", "sail(0, 0) = 999", "sail(0, 0) = STATE", "about(0, 10) = 1",
                "about(0, 2) = 6", "about(0, 4) = 1", "count(4) = 999");
        tell("12: STATE: it would be above 999: 4 HOURS, but not 3", STUBBLE, "hull(3, 1, 5)",
                "33 x pass(30)", "pass(6)", "sail(0, 0) = STATE", "about(0, 10) = 4", "wind(1)", "sail(0, 0) = 999");
        tell("12: STATE: it would be above 999: 4 HOURS of a SLED", STUBBLE, "hull(3, 1, 5)", "33 x pass(30)",
                "pass(5)", "sail(0, 0) = 999", "sail(0, 2) = STATE", "about(0, 12) = 4", "about(0, 4) = 4");
        tell("12: OUTSIDE comes ahead of STATE at the last HOUR", STUBBLE, "hull(3, 1, 5)", "33 x pass(30)", "pass(9)",
                "sail(0, 4) = OUTSIDE", "sail(1, 0) = UNKNOWN", "sail(0, 0) = STATE");
    }
}
