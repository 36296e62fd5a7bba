/** Promises 13 to 16: VOYAGE, LATEST, HOME, BEST WIND, each sentence that names a boundary case by itself. */
public final class EdgeWouldTest {
    private static final Due due = new Due("EdgeWouldTest");
    private static final String HIGH = "plain 9999,9999,9999;9";
    private static final String SOON = "plain 9999,9999,9999;1";
    private static final String STUBBLE = "plain 0000,0000,0000;9";

    public static void main(String[] args) {
        voyageWhereItIs();
        voyageSoonest();
        voyageFirstWay();
        voyageNone();
        voyageRefused();
        latest();
        latestNone();
        latestRefused();
        homeOfNone();
        homeOfSome();
        homeOrder();
        homeRefused();
        bestWind();
        bestWindRefused();
        due.end();
    }

    private static void tell(String sentence, String... steps) {
        Story.tell(due, sentence, steps);
    }

    // ---- VOYAGE

    private static void voyageWhereItIs() {
        tell("13: where it is: now, by no WAY", HIGH, "hull(0, 1, 0)", "hull(0, 1, 11)", "voyage(0, 0, 0) = 0",
                "voyage(0, 0, 1) = NONE", "voyage(1, 11, 0) = 0", "voyage(1, 11, 1) = NONE", "pass(8)",
                "voyage(0, 0, 0) = 8", "voyage(0, 0, 1) = NONE", "voyage(1, 11, 0) = 8");
        tell("13: where it is: STRANDED or not", STUBBLE, "hull(0, 9, 5)", "about(0, 3) = 1", "voyage(0, 5, 0) = 0",
                "voyage(0, 5, 1) = NONE", "33 x pass(30)", "pass(9)", "voyage(0, 5, 0) = 999",
                "voyage(0, 5, 1) = NONE");
    }

    private static void voyageSoonest() {
        tell("13: beyond HOUR 999, too", STUBBLE, "hull(3, 9, 0)", "hull(4, 1, 5)", "33 x pass(30)", "pass(9)",
                "voyage(0, 1, 0) = 1003", "voyage(0, 11, 0) = 1019", "voyage(0, 11, 1) = 0", "voyage(1, 6, 0) = 1001",
                "sail(0, 0) = STATE");
        tell("13: setting out now", HIGH, "hull(0, 1, 11)", "voyage(0, 10, 0) = 3", "pass(1)", "voyage(0, 10, 0) = 4",
                "pass(30)", "voyage(0, 10, 0) = 34");
        tell("13: the WIND staying as it is", HIGH, "hull(2, 1, 5)", "wind(0)", "voyage(0, 7, 0) = 2",
                "voyage(0, 4, 0) = 4", "voyage(0, 9, 0) = 2", "wind(2)", "voyage(0, 7, 0) = 8", "voyage(0, 4, 0) = 1",
                "wind(4)", "voyage(0, 7, 0) = 6");
        tell("13: as if nobody else sailed, whoever is on the way", HIGH, "hull(0, 1, 4)", "hull(0, 1, 5)",
                "hull(0, 1, 6)", "voyage(0, 7, 0) = 9", "voyage(1, 7, 0) = 6", "voyage(2, 7, 0) = 3",
                "voyage(2, 4, 0) = 6");
        // There is no corn on CELLS 5 and 6, so that it goes by the row above or by that below.
        tell("13: soonest, if only round about", "plain 1111,1001,1111;9", "hull(0, 1, 4)", "voyage(0, 7, 0) = 15",
                "voyage(0, 7, 1) = 1");
        // At REAP 2 the row above is cut ahead of it, the row below not.
        tell("13: soonest, if only ahead of the REAPER", "plain 1111,1001,1111;2", "hull(0, 1, 4)",
                "voyage(0, 7, 0) = 15", "voyage(0, 3, 0) = NONE", "voyage(0, 11, 0) = 12");
        tell("13: by way of the first CELL alone", "plain 1100,1000,1000;9", "hull(0, 1, 8)", "voyage(0, 0, 0) = 6",
                "voyage(0, 1, 0) = 9", "voyage(0, 1, 1) = 3");
        tell("13: by way of the last CELL alone", "plain 0001,0001,0011;9", "hull(0, 1, 10)", "voyage(0, 11, 0) = 3",
                "voyage(0, 3, 0) = 9", "voyage(0, 3, 1) = 0");
        tell("13: to the first CELL from the last one, and back", HIGH, "hull(4, 1, 11)", "hull(4, 1, 0)",
                "voyage(1, 11, 0) = 10", "wind(2)", "voyage(0, 0, 0) = 7", "voyage(0, 0, 1) = 2",
                "voyage(1, 11, 0) = 13");
    }

    private static void voyageFirstWay() {
        tell("13: by which WAY first: of like ones the least", HIGH, "hull(0, 1, 5)", "voyage(0, 10, 1) = 0",
                "voyage(0, 8, 1) = 1", "voyage(0, 0, 1) = 2", "voyage(0, 2, 1) = 0", "voyage(0, 11, 1) = 0");
        tell("13: the only WAY, be it the greatest", HIGH, "hull(0, 1, 5)", "voyage(0, 6, 1) = 0",
                "voyage(0, 9, 1) = 1", "voyage(0, 4, 1) = 2", "voyage(0, 1, 1) = 3");
        tell("13: the least WAY by which it is there soonest, not the least at all", "plain 9999,9909,9999;9",
                "hull(0, 1, 5)", "voyage(0, 6, 0) = NONE", "voyage(0, 7, 0) = 12", "voyage(0, 7, 1) = 1",
                "voyage(0, 2, 0) = 6", "voyage(0, 2, 1) = 3");
    }

    private static void voyageNone() {
        tell("13: none: it is STRANDED", "plain 9999,9099,9999;9", "hull(0, 1, 5)", "voyage(0, 6, 0) = NONE",
                "voyage(0, 6, 1) = NONE", "voyage(0, 1, 0) = NONE", "voyage(0, 11, 0) = NONE");
        tell("13: none: it would be STRANDED there", "plain 9999,9949,9999;9", "hull(0, 5, 5)", "hull(0, 4, 5)",
                "voyage(0, 6, 0) = NONE", "voyage(0, 6, 1) = NONE", "voyage(1, 6, 0) = 3", "voyage(1, 6, 1) = 0");
        tell("13: none: against the WIND", HIGH, "hull(0, 1, 5)", "hull(2, 1, 5)", "wind(0)", "voyage(0, 4, 0) = NONE",
                "voyage(0, 0, 0) = NONE", "voyage(0, 8, 1) = NONE", "voyage(1, 4, 0) = 4");
        tell("13: ahead of the REAPER by an HOUR, and none at his HOUR", SOON, "hull(0, 9, 0)", "hull(0, 9, 4)",
                "wind(0)", "voyage(0, 1, 0) = 1", "voyage(0, 2, 0) = 2", "voyage(0, 3, 0) = 3", "voyage(0, 4, 0) = 2",
                "wind(1)", "voyage(0, 1, 0) = NONE", "voyage(0, 1, 1) = NONE", "voyage(1, 5, 0) = 2");
        tell("13: none, as the REAPER cut it on the way", SOON, "hull(0, 9, 4)", "voyage(0, 6, 0) = 6",
                "voyage(0, 7, 0) = NONE", "voyage(0, 10, 0) = 9", "voyage(0, 11, 0) = NONE");
        tell("13: all is cut", SOON, "hull(0, 1, 11)", "hull(1, 1, 11)", "pass(12)", "voyage(0, 10, 0) = NONE",
                "voyage(0, 11, 0) = 12", "voyage(1, 10, 0) = 15");
    }

    private static void voyageRefused() {
        tell("13: UNKNOWN: hull", HIGH, "voyage(0, 0, 0) = UNKNOWN", "hull(0, 1, 0)", "voyage(0, 0, 0) = 0",
                "voyage(1, 0, 0) = UNKNOWN", "voyage(-1, 0, 0) = UNKNOWN", "voyage(MIN, 0, 0) = UNKNOWN",
                "voyage(MAX, 0, 0) = UNKNOWN", "2 x hull(0, 1, 0)", "voyage(2, 0, 0) = 0",
                "voyage(3, 0, 0) = UNKNOWN");
        tell("13: UNKNOWN: cell", HIGH, "hull(0, 1, 0)", "voyage(0, 0, 0) = 0", "voyage(0, 11, 0) = 15",
                "voyage(0, -1, 0) = UNKNOWN", "voyage(0, 12, 0) = UNKNOWN", "voyage(0, MIN, 0) = UNKNOWN",
                "voyage(0, MAX, 0) = UNKNOWN");
        tell("13: OUTSIDE: what (0, 1)", HIGH, "hull(0, 1, 0)", "voyage(0, 1, 0) = 3", "voyage(0, 1, 1) = 0",
                "voyage(0, 1, -1) = OUTSIDE", "voyage(0, 1, 2) = OUTSIDE", "voyage(0, 1, MIN) = OUTSIDE",
                "voyage(0, 1, MAX) = OUTSIDE", "voyage(0, 0, 2) = OUTSIDE");
        tell("13: UNKNOWN comes ahead of OUTSIDE", HIGH, "hull(0, 1, 0)", "voyage(1, 0, 2) = UNKNOWN",
                "voyage(0, 12, -1) = UNKNOWN", "voyage(0, -1, 2) = UNKNOWN", "voyage(3, 12, 2) = UNKNOWN",
                "voyage(MAX, MAX, MAX) = UNKNOWN");
        tell("13: UNKNOWN without a PLAIN", "voyage(0, 0, 0) = UNKNOWN", "voyage(0, 0, 2) = UNKNOWN",
                "voyage(0, 12, 0) = UNKNOWN");
    }

    // ---- LATEST

    private static void latest() {
        tell("14: the least REAP, 1", HIGH, "hull(0, 9, 4)", "hull(3, 9, 0)", "latest(0, 5) = 1", "latest(0, 8) = 1",
                "latest(1, 11) = 1");
        tell("14: where it is, STRANDED by every REAP, too: 1", STUBBLE, "hull(0, 9, 5)", "latest(0, 5) = 1",
                "33 x pass(30)", "pass(9)", "latest(0, 5) = 1");
        // CELL 8 is cut at nine times REAP: at HOUR 71 it is STRANDED by 7, at 72 by 8.
        tell("14: the greatest REAP, 9", HIGH, "hull(0, 9, 8)", "2 x pass(30)", "pass(11)", "latest(0, 9) = 8",
                "pass(1) = 72", "latest(0, 9) = 9", "pass(8) = 80", "latest(0, 9) = 9", "pass(1) = 81",
                "latest(0, 9) = NONE", "latest(0, 8) = 1");
        tell("14: it must be there ahead of the REAPER: 3 on CELL 1, which is cut at twice REAP", HIGH, "hull(0, 9, 0)",
                "latest(0, 1) = 2", "wind(1)", "latest(0, 1) = 2", "wind(0)", "latest(0, 1) = 1");
        tell("14: by a REAP greater than it is, too", SOON, "hull(0, 9, 0)", "voyage(0, 11, 0) = NONE",
                "latest(0, 11) = 2", "count(0) = 1");
        // At REAP 1 CELL 8 was cut at 9; at 4 it would be at 36, at 5 at 45.
        tell("14: what is cut by now would stand by another REAP", SOON, "hull(0, 9, 8)", "pass(30)", "pass(6)",
                "about(0, 3) = 1", "latest(0, 9) = 5");
        tell("14: all else as it is, the HOUR, too", SOON, "hull(0, 9, 8)", "pass(6)", "latest(0, 9) = 1", "pass(1)",
                "latest(0, 9) = 2");
        tell("14: all else as it is, the WIND, too", SOON, "hull(0, 9, 8)", "pass(7)", "latest(0, 9) = 2", "wind(0)",
                "latest(0, 9) = 1", "wind(2)", "latest(0, 9) = NONE");
        tell("14: beyond HOUR 999, too", STUBBLE, "hull(3, 9, 0)", "33 x pass(30)", "pass(9)", "latest(0, 11) = 1");
    }

    private static void latestNone() {
        tell("14: none: there is no corn", "plain 9999,9909,9999;9", "hull(0, 1, 5)", "latest(0, 6) = NONE");
        tell("14: none: it is STRANDED at HOUR 0", "plain 9999,9099,9999;9", "hull(0, 1, 5)", "latest(0, 6) = NONE");
        tell("14: none: against the WIND", HIGH, "hull(0, 1, 5)", "wind(2)", "latest(0, 6) = NONE",
                "latest(0, 5) = 1");
        tell("14: none: too late by REAP 9", HIGH, "hull(0, 1, 0)", "pass(9)", "latest(0, 1) = NONE");
    }

    private static void latestRefused() {
        tell("14: UNKNOWN: hull", HIGH, "latest(0, 0) = UNKNOWN", "hull(0, 1, 0)", "latest(0, 0) = 1",
                "latest(1, 0) = UNKNOWN", "latest(-1, 0) = UNKNOWN", "latest(MIN, 0) = UNKNOWN",
                "latest(MAX, 0) = UNKNOWN", "2 x hull(0, 1, 0)", "latest(2, 0) = 1", "latest(3, 0) = UNKNOWN");
        tell("14: UNKNOWN: cell", HIGH, "hull(0, 1, 0)", "latest(0, 0) = 1", "latest(0, 11) = 2",
                "latest(0, -1) = UNKNOWN", "latest(0, 12) = UNKNOWN", "latest(0, MIN) = UNKNOWN",
                "latest(0, MAX) = UNKNOWN", "latest(1, 12) = UNKNOWN");
        tell("14: UNKNOWN without a PLAIN", "latest(0, 0) = UNKNOWN", "latest(0, 12) = UNKNOWN");
    }

    // ---- HOME

    private static void homeOfNone() {
        tell("15: no HULLS: none come, the HOUR as it is, there is none", HIGH, "home(0, 0) = 0", "home(0, 1) = 0",
                "home(0, 10) = NONE", "home(0, 11) = NONE", "home(0, 12) = NONE", "pass(7)", "home(11, 0) = 0",
                "home(11, 1) = 7");
        tell("15: one that cannot come there stays, and takes no time", STUBBLE, "hull(0, 1, 5)", "pass(4)",
                "home(6, 0) = 0", "home(6, 1) = 4", "home(6, 10) = 0", "home(6, 11) = NONE", "home(6, 12) = NONE");
        tell("15: of three, none of which can", STUBBLE, "hull(0, 1, 5)", "hull(2, 9, 6)", "hull(4, 2, 0)", "pass(4)",
                "home(11, 0) = 0", "home(11, 1) = 4", "home(11, 10) = 0", "home(11, 11) = 1", "home(11, 12) = 2");
        tell("15: one that is there is home, STRANDED or not, and takes no time", STUBBLE, "hull(0, 1, 5)",
                "hull(3, 1, 4)", "hull(0, 1, 6)", "home(5, 0) = 2", "home(5, 1) = 4", "home(5, 10) = 0",
                "home(5, 11) = 1", "home(5, 12) = 2", "home(6, 0) = 2", "home(6, 1) = 8");
    }

    private static void homeOfSome() {
        tell("15: the so-manieth HULL: NONE: there is none, of one", HIGH, "hull(0, 1, 5)", "home(6, 0) = 1",
                "home(6, 1) = 3", "home(6, 10) = 0", "home(6, 11) = NONE", "home(6, 12) = NONE");
        tell("15: the so-manieth HULL: NONE: there is none, of two", HIGH, "2 x hull(0, 1, 5)", "home(6, 0) = 2",
                "home(6, 1) = 6", "home(6, 10) = 0", "home(6, 11) = 1", "home(6, 12) = NONE");
        tell("15: three, one behind the other; of like ones the first by numbers", HIGH, "3 x hull(0, 1, 5)",
                "home(6, 0) = 3", "home(6, 1) = 9", "home(6, 10) = 0", "home(6, 11) = 1", "home(6, 12) = 2");
        tell("15: the HOUR then, beyond 999, too", STUBBLE, "hull(3, 1, 5)", "hull(4, 1, 6)", "hull(0, 1, 7)",
                "33 x pass(30)", "pass(9)", "home(5, 0) = 2", "home(5, 1) = 1001", "home(7, 0) = 3",
                "home(7, 1) = 1009", "home(7, 10) = 0", "home(7, 11) = 1", "home(7, 12) = 2");
        tell("15: one that cannot come there stands in the order, too", "plain 9999,9999,9990;9", "hull(0, 1, 11)",
                "hull(0, 1, 5)", "home(5, 0) = 1", "home(5, 1) = 0", "home(5, 10) = 0", "home(5, 11) = 1",
                "home(6, 0) = 1", "home(6, 1) = 3", "home(6, 10) = 0", "home(6, 11) = 1");
    }

    private static void homeOrder() {
        // 1 must set out ahead, as its CELL 6 is cut at 7: with 0 ahead of it only one would come, but at 7.
        tell("15: the order in which most come home, though it ends later", SOON, "hull(0, 9, 8)", "hull(0, 9, 6)",
                "pass(1)", "home(10, 0) = 2", "home(10, 1) = 10", "home(10, 10) = 1", "home(10, 11) = 0");
        // Three HOURS on only one can come: 0 at 10, or 1 at 7.
        tell("15: of like ones that by which it is there soonest, by numbers or not", SOON, "hull(0, 9, 8)",
                "hull(0, 9, 6)", "pass(4)", "home(10, 0) = 1", "home(10, 1) = 7", "home(10, 10) = 1",
                "home(10, 11) = 0");
        // Either one is STRANDED when the other one is there: 0 would be on CELL 8 at 6, 1 at 3.
        tell("15: of like ones that by which the last one is there soonest", SOON, "hull(0, 9, 0)", "hull(0, 9, 4)",
                "home(8, 0) = 1", "home(8, 1) = 3", "home(8, 10) = 1", "home(8, 11) = 0");
        // The same with both of them as soon: the one with the lower number goes ahead.
        tell("15: of like ones the first by numbers, if only one can come", SOON, "hull(0, 9, 4)", "hull(0, 9, 4)",
                "pass(2)", "home(8, 0) = 1", "home(8, 1) = 5", "home(8, 10) = 0", "home(8, 11) = 1");
        for (int[] order : new int[][] {{0, 1, 2}, {0, 2, 1}, {1, 0, 2}, {1, 2, 0}, {2, 0, 1}, {2, 1, 0}}) {
            homeInOnlyOrder(order);
        }
        tell("15: nobody SAILED, no HOUR went by", HIGH, "hull(0, 1, 5)", "home(6, 1) = 3", "about(0, 2) = 5",
                "about(0, 4) = 0", "count(4) = 0");
    }

    /**
     * To CELL 11 at REAP 1 from HOUR 5: from 7 (cut at 8) it comes at 8, from 10 (cut at 11) at 11, the SLED at 15;
     * in any other order one of them is cut off.
     */
    private static void homeInOnlyOrder(int[] order) {
        String[] one = {"hull(0, 9, 7)", "hull(2, 9, 10)", "hull(3, 9, 10)"};
        String[] made = new String[3];
        for (int place = 0; place < 3; place++) {
            made[order[place]] = one[place];
        }
        tell("15: all come home in one order alone", SOON, "pass(5)", made[0], made[1], made[2], "home(11, 0) = 3",
                "home(11, 1) = 15", "home(11, 10) = " + order[0], "home(11, 11) = " + order[1],
                "home(11, 12) = " + order[2]);
    }

    private static void homeRefused() {
        tell("15: UNKNOWN: cell", HIGH, "home(0, 0) = 0", "home(11, 0) = 0", "home(-1, 0) = UNKNOWN",
                "home(12, 0) = UNKNOWN", "home(MIN, 0) = UNKNOWN", "home(MAX, 0) = UNKNOWN");
        tell("15: OUTSIDE: what (0, 1, 10 to 12)", HIGH, "3 x hull(0, 1, 5)", "home(5, 0) = 3", "home(5, 1) = 0",
                "home(5, 10) = 0", "home(5, 12) = 2", "home(5, -1) = OUTSIDE", "home(5, 2) = OUTSIDE",
                "home(5, 9) = OUTSIDE", "home(5, 13) = OUTSIDE", "home(5, MIN) = OUTSIDE", "home(5, MAX) = OUTSIDE");
        tell("15: OUTSIDE with no HULLS, too", HIGH, "home(5, 2) = OUTSIDE", "home(5, 9) = OUTSIDE",
                "home(5, 13) = OUTSIDE", "home(5, 12) = NONE");
        tell("15: UNKNOWN comes ahead of OUTSIDE", HIGH, "home(12, 2) = UNKNOWN", "home(-1, 13) = UNKNOWN",
                "home(MAX, MIN) = UNKNOWN");
        tell("15: UNKNOWN without a PLAIN", "home(0, 0) = UNKNOWN", "home(0, 2) = UNKNOWN", "home(12, 13) = UNKNOWN");
    }

    // ---- BEST WIND

    private static void bestWind() {
        tell("16: where it is, of like ones the least: 0", HIGH, "hull(0, 1, 5)", "wind(3)", "bestWind(0, 5) = 0");
        tell("16: where it is, STRANDED", STUBBLE, "hull(0, 1, 5)", "bestWind(0, 5) = 0");
        tell("16: the WIND (0 to 4): with it", HIGH, "hull(0, 1, 5)", "bestWind(0, 6) = 0", "bestWind(0, 9) = 1",
                "bestWind(0, 4) = 2", "bestWind(0, 1) = 3");
        // The only lane goes up, right, right, down, down, left: each WIND is against it once.
        tell("16: the WIND (0 to 4): 4, without one", "plain 0111,0101,0011;9", "hull(0, 1, 5)", "bestWind(0, 10) = 4",
                "hull(2, 1, 5)", "bestWind(1, 10) = 0");
        tell("16: of like ones the least", HIGH, "hull(0, 1, 5)", "bestWind(0, 10) = 0", "bestWind(0, 8) = 1",
                "bestWind(0, 0) = 2", "bestWind(0, 2) = 0");
        tell("16: staying from now on, whatever it is now", HIGH, "hull(0, 1, 5)", "wind(2)", "bestWind(0, 6) = 0",
                "wind(3)", "bestWind(0, 6) = 0", "count(5) = 3");
        // CELL 7 is cut at 8: from 11 at HOUR 6 it must be there in 1.
        tell("16: ahead of the REAPER by the greatest one alone, then none", SOON, "hull(0, 9, 11)", "pass(6)",
                "bestWind(0, 7) = 3", "voyage(0, 7, 0) = NONE", "pass(1)", "bestWind(0, 7) = NONE");
        tell("16: none: STRANDED; no corn there", "plain 9999,9099,9909;9", "hull(0, 1, 5)", "hull(0, 1, 9)",
                "bestWind(0, 6) = NONE", "bestWind(1, 10) = NONE", "bestWind(1, 8) = 2");
        tell("16: beyond HOUR 999, too", STUBBLE, "hull(3, 9, 0)", "33 x pass(30)", "pass(9)", "bestWind(0, 8) = 1");
    }

    private static void bestWindRefused() {
        tell("16: UNKNOWN: hull", HIGH, "bestWind(0, 0) = UNKNOWN", "hull(0, 1, 0)", "bestWind(0, 0) = 0",
                "bestWind(1, 0) = UNKNOWN", "bestWind(-1, 0) = UNKNOWN", "bestWind(MIN, 0) = UNKNOWN",
                "bestWind(MAX, 0) = UNKNOWN", "2 x hull(0, 1, 0)", "bestWind(2, 0) = 0", "bestWind(3, 0) = UNKNOWN");
        tell("16: UNKNOWN: cell", HIGH, "hull(0, 1, 0)", "bestWind(0, 0) = 0", "bestWind(0, 11) = 0",
                "bestWind(0, -1) = UNKNOWN", "bestWind(0, 12) = UNKNOWN", "bestWind(0, MIN) = UNKNOWN",
                "bestWind(0, MAX) = UNKNOWN", "bestWind(1, 12) = UNKNOWN");
        tell("16: UNKNOWN without a PLAIN", "bestWind(0, 0) = UNKNOWN", "bestWind(0, 12) = UNKNOWN");
    }
}
