/** Promises 17 to 20: SEEN, START, JUNES, each sentence that names a boundary case by itself. */
public final class EdgeSeenTest {
    private static final Due due = new Due("EdgeSeenTest");
    private static final String HIGH = "plain 9999,9999,9999;9";
    private static final String SOON = "plain 9999,9999,9999;1";
    private static final String STUBBLE = "plain 0000,0000,0000;9";

    public static void main(String[] args) {
        see();
        seeRefused();
        forget();
        startOfNothingSeen();
        startAtTheEdgesOfHours();
        startUnderWay();
        startAheadOfTheReaper();
        startByWind();
        startOfSeveral();
        startRefused();
        junes();
        junesOfNothing();
        junesBeyondAndRound();
        junesThatCannot();
        junesRefused();
        junesRefusedInOrder();
        due.end();
    }

    private static void tell(String sentence, String... steps) {
        Story.tell(due, sentence, steps);
    }

    private static String bits(int... cells) {
        int bits = 0;
        for (int cell : cells) {
            bits |= 1 << cell;
        }
        return Integer.toString(bits);
    }

    // ---- SEEN

    private static void see() {
        tell("17: SEEN (6 at most): how much is", HIGH, "hull(0, 1, 5)", "count(6) = 0", "see(0, 0, 0) = 1",
                "see(0, 0, 1) = 2", "see(0, 0, 2) = 3", "see(0, 0, 3) = 4", "see(0, 0, 4) = 5", "see(0, 0, 5) = 6",
                "see(0, 0, 6) = FULL", "see(0, 0, 0) = FULL", "count(6) = 6", "start(0) = 1");
        tell("17: a seventh takes no other one's place", HIGH, "hull(0, 1, 5)", "6 x see(0, 5, 3)", "start(0) = 626",
                "see(0, 6, 0) = FULL", "start(0) = 626", "see(0, 5, 0) = FULL", "start(0) = 626", "see(0, 5, 40) = FULL",
                "start(0) = 626");
        tell("17: 6 of all HULLS together", HIGH, "3 x hull(0, 1, 5)", "2 x see(0, 5, 0)", "2 x see(1, 5, 0)",
                "see(2, 5, 0) = 5", "see(2, 5, 0) = 6", "see(0, 5, 0) = FULL", "see(1, 5, 0) = FULL");
        tell("17: it may be SEEN wherever, whenever, by the HOUR as it is now, too", STUBBLE, "hull(0, 1, 5)",
                "33 x pass(30)", "see(0, 11, 40) = 1", "see(0, 0, 0) = 2", "about(0, 2) = 5", "start(0) = 0");
    }

    private static void seeRefused() {
        tell("17: UNKNOWN: hull", HIGH, "see(0, 0, 0) = UNKNOWN", "hull(0, 1, 5)", "see(1, 0, 0) = UNKNOWN",
                "see(-1, 0, 0) = UNKNOWN", "see(MIN, 0, 0) = UNKNOWN", "see(MAX, 0, 0) = UNKNOWN",
                "see(0, 0, 0) = 1", "2 x hull(0, 1, 5)", "see(2, 0, 0) = 2", "see(3, 0, 0) = UNKNOWN");
        tell("17: UNKNOWN: cell", HIGH, "hull(0, 1, 5)", "see(0, -1, 0) = UNKNOWN", "see(0, 12, 0) = UNKNOWN",
                "see(0, MIN, 0) = UNKNOWN", "see(0, MAX, 0) = UNKNOWN", "count(6) = 0", "see(0, 0, 0) = 1",
                "see(0, 11, 0) = 2");
        tell("17: OUTSIDE: hour (0 to 40)", HIGH, "hull(0, 1, 5)", "see(0, 5, -1) = OUTSIDE",
                "see(0, 5, 41) = OUTSIDE", "see(0, 5, MIN) = OUTSIDE", "see(0, 5, MAX) = OUTSIDE", "count(6) = 0",
                "start(0) = 4095", "see(0, 5, 0) = 1", "see(0, 5, 40) = 2");
        tell("17: UNKNOWN comes ahead of OUTSIDE", HIGH, "hull(0, 1, 5)", "see(1, 0, 41) = UNKNOWN",
                "see(0, 12, 41) = UNKNOWN", "see(-1, -1, -1) = UNKNOWN", "see(0, -1, -1) = UNKNOWN");
        tell("17: UNKNOWN comes ahead of FULL", HIGH, "hull(0, 1, 5)", "6 x see(0, 5, 0)", "see(1, 5, 0) = UNKNOWN",
                "see(-1, 5, 0) = UNKNOWN", "see(0, 12, 0) = UNKNOWN", "see(0, -1, 0) = UNKNOWN",
                "see(1, 12, 41) = UNKNOWN");
        tell("17: OUTSIDE comes ahead of FULL", HIGH, "hull(0, 1, 5)", "6 x see(0, 5, 0)", "see(0, 5, 41) = OUTSIDE",
                "see(0, 5, -1) = OUTSIDE", "see(0, 5, 40) = FULL");
        tell("17: UNKNOWN without a PLAIN", "see(0, 0, 0) = UNKNOWN", "see(0, 0, 41) = UNKNOWN",
                "see(0, 12, 0) = UNKNOWN", "count(6) = 0");
    }

    private static void forget() {
        tell("18: how much was: nothing, without a PLAIN", "forget() = 0", "count(6) = 0");
        tell("18: how much was: nothing", HIGH, "hull(0, 1, 5)", "forget() = 0", "forget() = 0", "start(0) = 4095");
        tell("18: how much was: one", HIGH, "hull(0, 1, 5)", "see(0, 5, 0)", "start(0) = 32", "forget() = 1",
                "count(6) = 0", "start(0) = 4095", "forget() = 0");
        tell("18: how much was: all 6; then 6 may be SEEN again", HIGH, "hull(0, 1, 5)", "6 x see(0, 5, 0)",
                "see(0, 5, 0) = FULL", "forget() = 6", "see(0, 6, 0) = 1", "start(0) = 64", "4 x see(0, 6, 0)",
                "see(0, 6, 0) = 6", "see(0, 6, 0) = FULL");
        tell("18: of all HULLS; nothing else is forgotten", HIGH, "2 x hull(0, 1, 5)", "see(0, 5, 0)", "see(1, 5, 0)",
                "wind(1)", "pass(3)", "type 12", "forget() = 2", "start(1) = 4095", "count(2) = 2", "count(4) = 3",
                "count(5) = 1", "count(7) = 2");
    }

    // ---- START

    private static void startOfNothingSeen() {
        tell("19: nothing SEEN: on every CELL", HIGH, "hull(0, 1, 5)", "start(0) = 4095");
        tell("19: nothing SEEN: on every CELL, STRANDED or not", STUBBLE, "hull(0, 9, 5)", "start(0) = 4095",
                "33 x pass(30)", "start(0) = 4095");
        tell("19: nothing SEEN of that one, but of another", HIGH, "2 x hull(0, 1, 5)", "6 x see(1, 5, 0)",
                "start(0) = 4095", "start(1) = 32");
    }

    private static void startAtTheEdgesOfHours() {
        tell("19: SEEN at HOUR 0: there alone, the first CELL and the last one", HIGH, "2 x hull(0, 1, 5)",
                "see(0, 0, 0)", "see(1, 11, 0)", "start(0) = 1", "start(1) = 2048");
        tell("19: SEEN at HOUR 2 it has not come from beside", HIGH, "2 x hull(0, 1, 5)", "see(0, 0, 2)",
                "see(1, 11, 2)", "start(0) = 1", "start(1) = 2048");
        tell("19: SEEN at HOUR 3 it has come from beside, or lay there", HIGH, "2 x hull(0, 1, 5)", "see(0, 0, 3)",
                "see(1, 11, 3)", "start(0) = " + bits(0, 1, 4), "start(1) = " + bits(7, 10, 11));
        // CELL 0 is cut at 9, so that it was there from 2 CELLS off, at 6, and not from 3 off, at 9.
        tell("19: SEEN at HOUR 40 on the first CELL and on the last one", HIGH, "2 x hull(0, 9, 5)", "see(0, 0, 40)",
                "see(1, 11, 40)", "start(0) = " + bits(0, 1, 2, 4, 5, 8), "start(1) = 4095");
        tell("19: SEEN at HOUR 40, an HOUR too soon, and not", HIGH, "2 x hull(3, 9, 5)", "see(0, 5, 37)",
                "see(0, 6, 40)", "see(1, 5, 36)", "see(1, 6, 40)", "start(0) = 0", "start(1) = 4095");
    }

    /** From CELL 1 down to 5 without WIND: it sets out at one HOUR, and comes there three HOURS later. */
    private static void startUnderWay() {
        String[] seen = {HIGH, "2 x hull(0, 1, 5)", "see(0, 1, 0)", "see(0, 5, 3)"};
        tell("19: at the HOUR at which it sets out and at that when it comes there it is on a CELL", seen[0], seen[1],
                seen[2], seen[3], "start(0) = 2");
        tell("19: from behind the HOUR at which it sets out it is not where it was", seen[0], seen[1], seen[2], seen[3],
                "see(0, 1, 1)", "start(0) = 0");
        tell("19: until it comes there it is not there", seen[0], seen[1], seen[2], seen[3], "see(0, 5, 2)",
                "start(0) = 0");
        tell("19: under way it is on no CELL", seen[0], seen[1], seen[2], seen[3], "see(0, 9, 1)", "start(0) = 0");
        tell("19: under way another one may be SEEN there", seen[0], seen[1], seen[2], seen[3], "see(1, 1, 1)",
                "see(1, 1, 2)", "start(0) = 2", "start(1) = 2");
        tell("19: it sets out at HOUR 1 and comes there at 4", seen[0], seen[1], seen[2], "see(0, 1, 1)",
                "see(0, 5, 4)", "start(0) = 2");
        tell("19: it lies on its way as long as it likes", HIGH, "hull(0, 1, 5)", "see(0, 5, 20)",
                "see(0, 9, 23)", "see(0, 9, 40)", "see(0, 5, 0)", "start(0) = 32");
        tell("19: one HOUR with the WIND has none between", HIGH, "hull(0, 1, 5)", "wind(0)", "see(0, 4, 0)",
                "see(0, 5, 1)", "see(0, 6, 2)", "see(0, 7, 3)", "start(0) = 16");
    }

    private static void startAheadOfTheReaper() {
        // CELL 5 is cut at 6: it came there at 3 to 5, and from CELL 1 (cut at 2) it set out at 0 or 1.
        tell("19: it could lie there STRANDED", SOON, "hull(0, 9, 5)", "see(0, 5, 40)",
                "start(0) = " + bits(1, 4, 5, 6, 9));
        tell("19: it comes there an HOUR ahead of the REAPER, from HOUR 2", SOON, "hull(0, 9, 5)", "see(0, 4, 2)",
                "see(0, 5, 6)", "start(0) = 16");
        tell("19: it does not come there at his HOUR, from HOUR 3", SOON, "hull(0, 9, 5)", "see(0, 4, 3)",
                "see(0, 5, 6)", "start(0) = 0");
        tell("19: it does not set out once it is STRANDED", "plain 9999,9999,9999;2", "hull(0, 9, 5)", "see(0, 0, 2)",
                "see(0, 4, 5)", "start(0) = 0");
        tell("19: it sets out an HOUR ahead of that", "plain 9999,9999,9999;2", "hull(0, 9, 5)", "see(0, 0, 1)",
                "see(0, 4, 4)", "start(0) = 1");
        tell("19: it lay STRANDED all the time", STUBBLE, "hull(0, 1, 0)", "see(0, 5, 0)", "see(0, 5, 40)",
                "see(0, 5, 20)", "start(0) = 32", "see(0, 6, 40)", "start(0) = 0");
        tell("19: the HOUR does not matter, nor where it is now", SOON, "hull(3, 9, 11)", "see(0, 5, 4)",
                "start(0) = " + bits(1, 4, 5, 6, 9), "33 x pass(30)", "sail(0, 2)", "start(0) = " + bits(1, 4, 5, 6, 9));
    }

    private static void startByWind() {
        tell("19: by the WIND as it is now all the time", HIGH, "hull(0, 1, 0)", "see(0, 5, 1)", "start(0) = 32",
                "wind(0)", "start(0) = " + bits(4, 5), "wind(1)", "start(0) = " + bits(1, 5), "wind(2)",
                "start(0) = " + bits(5, 6), "wind(3)", "start(0) = " + bits(5, 9), "wind(4)", "start(0) = 32");
        tell("19: against it a GALLEY, in 4", HIGH, "hull(2, 1, 0)", "hull(0, 1, 0)", "wind(2)", "see(0, 4, 0)",
                "see(0, 5, 4)", "see(1, 4, 0)", "see(1, 5, 4)", "start(0) = 16", "start(1) = 0", "see(0, 5, 3)",
                "start(0) = 0");
        tell("19: by its KIND and DRAUGHT", "plain 3333,3333,3333;9", "hull(0, 4, 0)", "hull(1, 4, 0)", "hull(3, 9, 0)",
                "see(0, 5, 3)", "see(1, 5, 3)", "see(2, 5, 3)", "start(0) = 32", "start(1) = " + bits(1, 4, 5, 6, 9),
                "start(2) = 32");
    }

    private static void startOfSeveral() {
        tell("19: SEEN on two CELLS at one HOUR: nowhere", HIGH, "hull(0, 1, 0)", "see(0, 5, 0)", "see(0, 6, 0)",
                "start(0) = 0");
        tell("19: SEEN on two CELLS at one HOUR, the last one: nowhere", HIGH, "hull(0, 1, 0)", "see(0, 5, 40)",
                "see(0, 6, 40)", "start(0) = 0");
        tell("19: the same SEEN twice", HIGH, "hull(0, 1, 0)", "see(0, 5, 3)", "see(0, 5, 3) = 2",
                "start(0) = " + bits(1, 4, 5, 6, 9));
        tell("19: SEEN later, told first", HIGH, "hull(0, 1, 0)", "see(0, 6, 6)", "see(0, 5, 3)",
                "start(0) = " + bits(1, 4, 5, 6, 9), "see(0, 4, 0)", "start(0) = 16");
        tell("19: SEEN 6 times, by the last of them nowhere", HIGH, "hull(0, 1, 0)", "see(0, 4, 0)", "see(0, 5, 3)",
                "see(0, 6, 6)", "see(0, 7, 9)", "see(0, 11, 12)", "start(0) = 16", "see(0, 3, 12)", "start(0) = 0");
    }

    private static void startRefused() {
        tell("19: UNKNOWN: hull", HIGH, "start(0) = UNKNOWN", "hull(0, 1, 0)", "start(0) = 4095", "start(1) = UNKNOWN",
                "start(-1) = UNKNOWN", "start(MIN) = UNKNOWN", "start(MAX) = UNKNOWN", "2 x hull(0, 1, 0)",
                "start(2) = 4095", "start(3) = UNKNOWN");
        tell("19: UNKNOWN without a PLAIN", "start(0) = UNKNOWN", "start(-1) = UNKNOWN");
    }

    // ---- JUNES

    /** How often it could not, how many are STRANDED, the HOUR, the SEED. */
    private static String[] junesAre(String call, int could, int stranded, int hour, int seed) {
        return new String[] {"junes(" + call + ", 0) = " + could, "junes(" + call + ", 1) = " + stranded,
            "junes(" + call + ", 2) = " + hour, "junes(" + call + ", 3) = " + seed};
    }

    private static void tellJunes(String sentence, String made, String[] junes) {
        String[] steps = (made + "; " + String.join("; ", junes)).split("; ");
        tell(sentence, steps);
    }

    private static void junes() {
        // From SEED 0 by draws: WIND 0, WAY 0, WIND 3, WAY 1, WIND 3 (229283573), WAY 3.
        tellJunes("20: a DRAW of 5 for the WIND ahead of one of 4 for the WAY", HIGH + "; hull(0, 1, 5)",
                junesAre("1, 0", 0, 0, 1, 1406932606));
        tellJunes("20: if it can: a HULL cannot against it", HIGH + "; hull(0, 1, 5)",
                junesAre("2, 0", 1, 0, 1, 1449466924));
        tellJunes("20: if it can: a GALLEY can", HIGH + "; hull(2, 1, 5)", junesAre("2, 0", 0, 0, 5, 1449466924));
        tellJunes("20: each HULL, by number: the GALLEY behind", HIGH + "; hull(0, 1, 5); hull(2, 1, 5)",
                junesAre("1, 0", 0, 0, 5, 1449466924));
        tellJunes("20: each HULL, by number: the GALLEY ahead", HIGH + "; hull(2, 1, 5); hull(0, 1, 5)",
                junesAre("1, 0", 1, 0, 1, 1449466924));
        tellJunes("20: so many times, 20, three HULLS", HIGH + "; hull(0, 1, 5); hull(2, 1, 6); hull(3, 9, 0)",
                junesAre("20, 0", 26, 1, 88, 2120877416));
        tellJunes("20: so many times, 20, three HULLS, from the last SEED",
                HIGH + "; hull(0, 1, 5); hull(2, 1, 6); hull(3, 9, 0)",
                junesAre("20, 2147483647", 29, 2, 73, 2141326983));
        tellJunes("20: from the HOUR as it is", HIGH + "; hull(0, 1, 5); pass(7)",
                junesAre("1, 0", 0, 0, 8, 1406932606));
        tellJunes("20: whatever the WIND is now", HIGH + "; hull(0, 1, 5); wind(2)",
                junesAre("1, 0", 0, 0, 1, 1406932606));
        tell("20: as they would be: all is as it was", HIGH, "hull(0, 1, 5)", "wind(1)", "pass(2)",
                "junes(20, 5, 2) = 19", "about(0, 2) = 5", "about(0, 4) = 0", "count(4) = 2", "count(5) = 1");
    }

    private static void junesOfNothing() {
        tellJunes("20: no HULLS: none could not, none is STRANDED, no HOUR, no DRAW", HIGH,
                junesAre("1, 0", 0, 0, 0, 0));
        tellJunes("20: no HULLS, so many times, from the last SEED", HIGH + "; pass(9)",
                junesAre("20, 2147483647", 0, 0, 9, 2147483647));
    }

    private static void junesBeyondAndRound() {
        tellJunes("20: beyond HOUR 999, too", STUBBLE + "; hull(3, 9, 5); 33 x pass(30); pass(9)",
                junesAre("1, 0", 0, 0, 1001, 1406932606));
        tellJunes("20: beyond HOUR 999, 20 times", STUBBLE
                + "; hull(3, 9, 5); hull(3, 9, 6); hull(4, 1, 0); 33 x pass(30); pass(9)",
                junesAre("20, 0", 17, 0, 1114, 2120877416));
        // 1043980748 (no WIND), 288979989 (down): the SEED goes round at 2 to the 31.
        tellJunes("20: its rest by 2 to the 31, from the greatest SEED", HIGH + "; hull(0, 1, 5)",
                junesAre("1, 2147483647", 0, 0, 3, 288979989));
        tellJunes("20: that by 65536 (rounded down), from the least SEED: 0 of 5", HIGH + "; hull(0, 1, 4)",
                junesAre("1, 0", 0, 0, 1, 1406932606));
    }

    private static void junesThatCannot() {
        tellJunes("20: there is no CELL that WAY", HIGH + "; hull(0, 1, 7)", junesAre("1, 0", 1, 0, 0, 1406932606));
        tellJunes("20: all STRANDED could not at all, each time", STUBBLE
                + "; hull(0, 1, 5); hull(2, 1, 6); hull(4, 2, 0); 33 x pass(30); pass(9)",
                junesAre("20, 2147483647", 60, 3, 999, 2141326983));
        // It comes to CELL 6 (cut at 7) at 6 from CELL 5 (cut at 6) at 5; at 6 it cannot any more.
        tellJunes("20: an HOUR ahead of the REAPER it can", SOON + "; hull(0, 9, 5); pass(5)",
                junesAre("1, 0", 0, 0, 6, 1406932606));
        tellJunes("20: at his HOUR it cannot, and is STRANDED", SOON + "; hull(0, 9, 5); pass(6)",
                junesAre("1, 0", 1, 1, 6, 1406932606));
        // The first one needs the HOUR in which the other one's CELL 0 is cut.
        tellJunes("20: how many are STRANDED then", SOON + "; hull(0, 9, 5); hull(0, 9, 0)",
                junesAre("1, 0", 1, 1, 1, 1449466924));
    }

    private static void junesRefused() {
        tell("20: OUTSIDE: times (1 to 20)", HIGH, "hull(0, 1, 5)", "junes(1, 0, 0) = 0", "junes(20, 0, 3) = 1387182456",
                "junes(0, 0, 0) = OUTSIDE", "junes(21, 0, 0) = OUTSIDE", "junes(-1, 0, 0) = OUTSIDE",
                "junes(MIN, 0, 0) = OUTSIDE", "junes(MAX, 0, 0) = OUTSIDE");
        tell("20: OUTSIDE: seed (0 at least)", HIGH, "hull(0, 1, 5)", "junes(1, 0, 2) = 1", "junes(1, MAX, 2) = 3",
                "junes(1, -1, 2) = OUTSIDE", "junes(1, MIN, 2) = OUTSIDE", "junes(1, -2147483647, 3) = OUTSIDE");
        tell("20: OUTSIDE: what (0 to 3)", HIGH, "hull(0, 1, 5)", "junes(1, 0, 0) = 0", "junes(1, 0, 3) = 1406932606",
                "junes(1, 0, -1) = OUTSIDE", "junes(1, 0, 4) = OUTSIDE", "junes(1, 0, MIN) = OUTSIDE",
                "junes(1, 0, MAX) = OUTSIDE");
        tell("20: OUTSIDE with no HULLS, too", HIGH, "junes(0, 0, 0) = OUTSIDE", "junes(1, -1, 0) = OUTSIDE",
                "junes(1, 0, 4) = OUTSIDE");
        tell("20: STATE: no PLAIN", "junes(1, 0, 0) = STATE", "junes(20, MAX, 3) = STATE");
    }

    private static void junesRefusedInOrder() {
        tell("20: OUTSIDE comes ahead of STATE", "junes(0, 0, 0) = OUTSIDE", "junes(21, 0, 0) = OUTSIDE",
                "junes(1, -1, 0) = OUTSIDE", "junes(1, 0, 4) = OUTSIDE", "junes(1, 0, -1) = OUTSIDE",
                "junes(MAX, MIN, MAX) = OUTSIDE");
    }
}
