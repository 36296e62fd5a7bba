import java.math.BigInteger;

/** Promises 21 to 24: IMAGE, counts and the digest, each sentence that names a boundary case by itself. */
public final class EdgeToldTest {
    private static final Due due = new Due("EdgeToldTest");
    private static final String HIGH = "plain 9999,9999,9999;9";
    private static final String STUBBLE = "plain 0000,0000,0000;9";

    public static void main(String[] args) {
        image();
        imageKeepsHulls();
        imageKeepsTheRest();
        imageKeepsNoMore();
        imageOfAllThatIsFull();
        restore();
        restoreRefused();
        countOfNothing();
        countOfEach();
        countRefused();
        digestOfNothing();
        digestOfThePage();
        digestOfAPlain();
        digestOfHulls();
        due.end();
    }

    private static void tell(String sentence, String... steps) {
        Story.tell(due, sentence, steps);
    }

    // ---- IMAGE

    private static void image() {
        tell("21: STATE: no PLAIN", "image() = STATE", "restore() = STATE", "type 9999", "image() = STATE");
        tell("21: the HOUR: 0", HIGH, "image() = 0", "restore() = 0");
        tell("21: the HOUR: 999", HIGH, "33 x pass(30)", "pass(9)", "image() = 999", "restore() = 999");
        tell("21: one; the latest", HIGH, "hull(0, 1, 5)", "image() = 0", "pass(1)", "image() = 1", "wind(2)",
                "hull(0, 1, 6)", "see(0, 0, 0)", "pass(1)", "image() = 2", "pass(1)", "wind(3)", "forget()",
                "restore() = 2", "count(2) = 2", "count(5) = 2", "count(6) = 1", "restore() = 2");
        tell("21: a later one of less SEEN", HIGH, "hull(0, 1, 5)", "3 x see(0, 5, 0)", "image()", "forget()", "image()",
                "see(0, 6, 0)", "restore()", "count(6) = 0", "start(0) = 4095");
    }

    private static void imageKeepsHulls() {
        tell("21: how many HULLS there are: none", HIGH, "image()", "3 x hull(0, 1, 5)", "see(2, 5, 0)", "restore() = 0",
                "count(2) = 0", "count(3) = 0", "cell(5, 3) = 0", "about(0, 0) = UNKNOWN", "see(0, 5, 0) = UNKNOWN",
                "home(5, 0) = 0", "home(5, 10) = NONE", "junes(1, 7, 3) = 7");
        tell("21: how many HULLS there are: one; those that come since are gone", HIGH, "hull(0, 1, 5)", "image()",
                "hull(1, 1, 5)", "hull(2, 1, 5)", "restore()", "count(2) = 1", "about(0, 0) = 0",
                "about(1, 0) = UNKNOWN", "about(2, 0) = UNKNOWN", "cell(5, 3) = 1", "hull(3, 4, 9) = 1",
                "about(1, 0) = 3", "about(1, 1) = 4", "about(1, 4) = 0", "hull(4, 1, 9) = 2", "hull(4, 1, 9) = FULL");
        tell("21: how many HULLS there are: all three", HIGH, "3 x hull(0, 1, 5)", "image()", "sail(2, 0)", "restore()",
                "count(2) = 3", "hull(0, 1, 5) = FULL", "about(2, 2) = 5");
        tell("21: a HULL that is STRANDED since is not, then", HIGH, "hull(0, 9, 0)", "image()", "pass(9)",
                "count(3) = 1", "restore()", "count(3) = 0");
        tell("21: their CELLS", HIGH, "hull(0, 1, 0)", "hull(0, 1, 11)", "image()", "sail(0, 0)", "sail(1, 2)",
                "restore()", "about(0, 2) = 0", "about(1, 2) = 11", "cell(0, 3) = 1", "cell(1, 3) = 0");
        tell("21: HOURS at sea, 0 and more", HIGH, "hull(0, 1, 5)", "hull(0, 1, 5)", "sail(1, 0)", "image()",
                "sail(0, 0)", "sail(1, 2)", "about(0, 4) = 3", "about(1, 4) = 6", "restore()", "about(0, 4) = 0",
                "about(1, 4) = 3");
    }

    private static void imageKeepsTheRest() {
        tell("21: the HOUR: what was cut since stands again", HIGH, "pass(8)", "image() = 8", "pass(30)", "count(1) = 4",
                "restore() = 8", "count(4) = 8", "count(1) = 0", "cell(0, 0) = 9");
        tell("21: the WIND: none", HIGH, "image()", "wind(0)", "restore()", "count(5) = 4");
        tell("21: the WIND: 0", HIGH, "wind(0)", "image()", "wind(4)", "restore()", "count(5) = 0", "wind(1) = 0");
        tell("21: SEEN: nothing", HIGH, "hull(0, 1, 5)", "image()", "see(0, 5, 0)", "restore()", "count(6) = 0",
                "start(0) = 4095");
        tell("21: SEEN: one, though forgotten", HIGH, "hull(0, 1, 5)", "see(0, 5, 0)", "image()", "forget()",
                "restore()", "count(6) = 1", "start(0) = 32");
        tell("21: SEEN: one, though another one was SEEN instead", HIGH, "hull(0, 1, 5)", "see(0, 5, 0)", "image()",
                "forget()", "see(0, 6, 1)", "see(0, 6, 2)", "restore()", "count(6) = 1", "start(0) = 32",
                "see(0, 5, 1) = 2");
        tell("21: SEEN: which HULL, where and at which HOUR", HIGH, "2 x hull(0, 1, 5)", "see(1, 5, 3)", "image()",
                "forget()", "see(0, 6, 20)", "restore()", "start(0) = 4095", "start(1) = 626", "forget() = 1",
                "start(1) = 4095");
    }

    private static void imageKeepsNoMore() {
        tell("22: THE PAGE goes on", HIGH, "type 12", "image()", "type 3", "restore()", "count(7) = 3", "blank() = 3",
                "restore()", "count(7) = 0");
        tell("22: how often a PLAIN was read goes on", HIGH, HIGH, "image()", "restore()", "count(8) = 2");
        tell("22: REAP and the corn are the PLAIN's", HIGH, "image()", "pass(30)", "restore()", "count(0) = 9",
                "cell(11, 1) = 9");
    }

    private static void imageOfAllThatIsFull() {
        tell("21: all 6 that are SEEN, all three HULLS, a full PAGE", HIGH, "3 x hull(0, 1, 5)", "6 x see(2, 5, 0)",
                "18 x letter(1)", "image()", "forget()", "blank()", "restore()", "count(6) = 6", "see(0, 5, 0) = FULL",
                "hull(0, 1, 5) = FULL", "letter(1) = 1", "start(2) = 32");
    }

    private static void restore() {
        tell("22: it goes on from the IMAGE, again and again", HIGH, "hull(0, 1, 5)", "image() = 0", "sail(0, 0)",
                "restore() = 0", "sail(0, 1) = 3", "see(0, 9, 3) = 1", "restore() = 0", "about(0, 2) = 5",
                "about(0, 4) = 0", "count(6) = 0", "sail(0, 2) = 3", "wind(1)", "restore() = 0", "count(5) = 4");
        tell("22: at once, nothing is other than it was", HIGH, "hull(0, 1, 5)", "pass(3)", "image() = 3",
                "restore() = 3", "count(4) = 3", "about(0, 2) = 5");
        tell("22: an IMAGE of what goes on from an IMAGE", HIGH, "hull(0, 1, 5)", "image() = 0", "sail(0, 0)",
                "restore() = 0", "pass(5)", "image() = 5", "pass(5)", "restore() = 5");
        tell("22: back from HOUR 999", HIGH, "image() = 0", "33 x pass(30)", "pass(9)", "pass(1) = STATE",
                "restore() = 0", "pass(1) = 1");
    }

    private static void restoreRefused() {
        tell("22: STATE: none was kept, without a PLAIN", "restore() = STATE");
        tell("22: STATE: none was kept", HIGH, "hull(0, 1, 5)", "pass(3)", "restore() = STATE", "count(4) = 3",
                "count(2) = 1");
        tell("22: STATE: there is another PLAIN since", HIGH, "hull(0, 1, 5)", "image()",
                "plain 1111,1111,1111;1", "restore() = STATE", "count(0) = 1", "count(2) = 0");
        tell("22: STATE: there is another PLAIN since, the same by its text", HIGH, "hull(0, 1, 5)", "image()", HIGH,
                "restore() = STATE", "count(2) = 0");
        tell("22: an IMAGE since the other PLAIN", HIGH, "hull(0, 1, 5)", "pass(3)", "image()", HIGH, "image() = 0",
                "hull(0, 1, 5)", "pass(1)", "restore() = 0", "count(2) = 0");
        tell("22: a text that is no PLAIN is no other PLAIN", HIGH, "hull(0, 1, 5)", "image() = 0", "pass(3)",
                "type 9999,9999,9999;0", "plain() = STATE", "restore() = 0", "count(7) = 16");
    }

    // ---- counts

    private static void countOfNothing() {
        tell("23: without a PLAIN: REAP 0, nothing cut, no WIND", "count(0) = 0", "count(1) = 0", "count(2) = 0",
                "count(3) = 0", "count(4) = 0", "count(5) = 4", "count(6) = 0", "count(7) = 0", "count(8) = 0");
        tell("23: of a PLAIN alone", STUBBLE, "count(0) = 9", "count(1) = 0", "count(2) = 0", "count(3) = 0",
                "count(4) = 0", "count(5) = 4", "count(6) = 0", "count(7) = 0", "count(8) = 1");
    }

    private static void countOfEach() {
        for (int reap = 1; reap <= 9; reap++) {
            tell("23: 0 REAP " + reap, "plain 9999,9999,9999;" + reap, "count(0) = " + reap);
        }
        for (int cell = 0; cell < 12; cell++) {
            int hour = 2 * (cell + 1);
            tell("23: 1 CELLS that are cut, at the HOUR of CELL " + cell, "plain 9999,9999,9999;2",
                    "pass(" + (hour - 1) + ")", "count(1) = " + cell, "pass(1) = " + hour, "count(1) = " + (cell + 1));
        }
        tell("23: 1 CELLS that are cut, all at last", "plain 9999,9999,9999;9", "33 x pass(30)", "count(1) = 12");
        tell("23: 2 HULLS and 3 that are STRANDED, from none to all", STUBBLE, "hull(0, 1, 5)", "count(2) = 1",
                "count(3) = 1", "hull(3, 1, 5)", "count(2) = 2", "count(3) = 1", "hull(1, 2, 5)", "count(2) = 3",
                "count(3) = 2", "hull(0, 1, 5)", "count(2) = 3");
        tell("23: 3 all STRANDED", STUBBLE, "3 x hull(0, 1, 5)", "count(3) = 3");
        tell("23: 4 the HOUR, 999 at most", HIGH, "33 x pass(30)", "count(4) = 990", "pass(9)", "count(4) = 999",
                "pass(1)", "count(4) = 999");
        tell("23: 5 the WIND, 0 to 4", HIGH, "wind(0)", "count(5) = 0", "wind(3)", "count(5) = 3", "wind(4)",
                "count(5) = 4");
        tell("23: 6 what is SEEN, 6 at most", HIGH, "hull(0, 1, 5)", "5 x see(0, 5, 0)", "count(6) = 5", "see(0, 5, 0)",
                "count(6) = 6", "see(0, 5, 0)", "count(6) = 6");
        tell("23: 7 letters of THE PAGE, 18 at most", "17 x letter(1)", "count(7) = 17", "letter(1)", "count(7) = 18",
                "letter(1)", "count(7) = 18");
        tell("23: 8 how often a PLAIN was read, not how often plain() was called", "plain()", "count(8) = 0", HIGH,
                "count(8) = 1", "plain()", "count(8) = 1", HIGH, HIGH, "count(8) = 3", "blank()", "count(8) = 3");
    }

    private static void countRefused() {
        tell("23: OUTSIDE (0 to 8)", HIGH, "count(0) = 9", "count(8) = 1", "count(-1) = OUTSIDE", "count(9) = OUTSIDE",
                "count(10) = OUTSIDE", "count(MIN) = OUTSIDE", "count(MAX) = OUTSIDE");
        tell("23: OUTSIDE without a PLAIN, too", "count(-1) = OUTSIDE", "count(9) = OUTSIDE");
    }

    // ---- the digest

    /** By the document's words, over numbers without an end; then as the long that is left of it. */
    private static long digestOf(int... numbers) {
        BigInteger h = BigInteger.valueOf(863);
        for (int number : numbers) {
            h = h.multiply(BigInteger.valueOf(31)).add(BigInteger.valueOf(number));
        }
        return h.longValue();
    }

    private static int[] joined(int[]... parts) {
        int many = 0;
        for (int[] part : parts) {
            many += part.length;
        }
        int[] all = new int[many];
        int at = 0;
        for (int[] part : parts) {
            System.arraycopy(part, 0, all, at, part.length);
            at += part.length;
        }
        return all;
    }

    private static int[] numbers(int... numbers) {
        return numbers;
    }

    private static void digestOfNothing() {
        tell("24: without a PLAIN no CELLS, no HULLS, no letters: what count() tells alone",
                "digest() = " + digestOf(0, 0, 0, 0, 0, 4, 0, 0, 0));
    }

    private static void digestOfThePage() {
        tell("24: letters of THE PAGE, each by its code: the least and the greatest", "letter(1)", "letter(126)",
                "digest() = " + digestOf(1, 126, 0, 0, 0, 0, 0, 4, 0, 2, 0), "blank()",
                "digest() = " + digestOf(0, 0, 0, 0, 0, 4, 0, 0, 0));
        tell("24: letters of THE PAGE, in their order", "type ba",
                "digest() = " + digestOf(98, 97, 0, 0, 0, 0, 0, 4, 0, 2, 0));
        tell("24: letters of a full PAGE; it wraps", "18 x letter(126)", "digest() = " + digestOf(126, 126, 126, 126,
                126, 126, 126, 126, 126, 126, 126, 126, 126, 126, 126, 126, 126, 126, 0, 0, 0, 0, 0, 4, 0, 18, 0));
    }

    /** Of each CELL of the plain below at HOUR 5: what it is now, what it was, when it is cut, how many are there. */
    private static final int[] CELLS_AT_5 = {0, 1, 2, 0, 0, 2, 4, 0, 3, 3, 6, 0, 4, 4, 8, 0, 5, 5, 10, 0, 6, 6, 12, 0,
        7, 7, 14, 0, 8, 8, 16, 0, 9, 9, 18, 0, 0, 0, 20, 0, 1, 1, 22, 0, 2, 2, 24, 0};

    private static void digestOfAPlain() {
        int[] counts = {2, 2, 0, 0, 5, 3, 0, 0, 1};
        tell("24: with a PLAIN of each CELL; no HULLS; it wraps", "plain 1234,5678,9012;2", "pass(5)", "wind(3)",
                "digest() = " + digestOf(joined(CELLS_AT_5, counts)));
        int[] withPage = {2, 2, 0, 0, 5, 3, 0, 1, 1};
        tell("24: letters of THE PAGE behind the CELLS, ahead of the counts", "plain 1234,5678,9012;2", "pass(5)",
                "wind(3)", "letter(44)", "digest() = " + digestOf(joined(CELLS_AT_5, numbers(44), withPage)));
    }

    private static void digestOfHulls() {
        // In stubble at HOUR 2, with WIND 0: a SLED on CELL 5, SEEN on 6 at HOUR 2, and a HULL that is STRANDED on 0.
        int[] cells = {0, 0, 9, 1, 0, 0, 18, 0, 0, 0, 27, 0, 0, 0, 36, 0, 0, 0, 45, 0, 0, 0, 54, 1, 0, 0, 63, 0,
            0, 0, 72, 0, 0, 0, 81, 0, 0, 0, 90, 0, 0, 0, 99, 0, 0, 0, 108, 0};
        int[] sled = {3, 9, 5, 0, 0, 2, 3, -1, 3, -1, 5, 7, 9, -1, 2, 4, 6, -1, 5, 7, 9, 1 << 5 | 1 << 6};
        int[] stranded = {0, 1, 0, 1, 0, -1, -1, -1, -1, 2, -1, -1, -1, -1, -1, -1, -1, -1, -1, -1, -1, 4095};
        int[] counts = {9, 0, 2, 1, 2, 0, 1, 0, 1};
        tell("24: of each HULL, by number", STUBBLE, "hull(3, 9, 5)", "hull(0, 1, 0)", "wind(0)", "pass(2)",
                "see(0, 6, 2)", "digest() = " + digestOf(joined(cells, sled, stranded, counts)));
        tell("24: of each HULL, the other way round", STUBBLE, "hull(0, 1, 0)", "hull(3, 9, 5)", "wind(0)", "pass(2)",
                "see(1, 6, 2)", "digest() = " + digestOf(joined(cells, stranded, sled, counts)));
        int[] page = {49, 44};
        int[] withPage = {9, 0, 2, 1, 2, 0, 1, 2, 1};
        tell("24: letters of THE PAGE behind the HULLS", STUBBLE, "hull(3, 9, 5)", "hull(0, 1, 0)", "wind(0)", "pass(2)",
                "see(0, 6, 2)", "type 1,", "digest() = " + digestOf(joined(cells, sled, stranded, page, withPage)));
    }
}
