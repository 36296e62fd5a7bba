/** Promises 1 to 8, each sentence that names a boundary case by itself. */
public final class EdgePlainTest {
    private static final Due due = new Due("EdgePlainTest");
    private static final String TEXT = "1234,5678,9012;3";

    public static void main(String[] args) {
        newObject();
        letter();
        blank();
        faultByPlace();
        faultByLength();
        plain();
        plainIsNone();
        anotherPlain();
        cell();
        reaper();
        hullsOnCells();
        wind();
        pass();
        due.end();
    }

    private static void tell(String sentence, String... steps) {
        Story.tell(due, sentence, steps);
    }

    private static void newObject() {
        tell("Terms: at first there is no PLAIN, it is HOUR 0, there is no WIND (4)",
                "count(0) = 0", "count(4) = 0", "count(5) = 4");
        tell("1: nothing is there at first", "count(1) = 0", "count(2) = 0", "count(3) = 0", "count(6) = 0",
                "count(7) = 0", "count(8) = 0", "fault() = 0", "blank() = 0", "forget() = 0", "restore() = STATE");
        // What needs a PLAIN is refused without one; what is OUTSIDE stays so, where it comes first.
        tell("1: No PLAIN: no CELLS", "cell(0, 0) = UNKNOWN", "cell(11, 3) = UNKNOWN", "home(0, 0) = UNKNOWN",
                "home(11, 12) = UNKNOWN", "hull(0, 1, 0) = UNKNOWN", "hull(4, 9, 11) = UNKNOWN",
                "hull(5, 1, 0) = OUTSIDE");
        tell("1: No PLAIN: no HULLS", "about(0, 0) = UNKNOWN", "as(0, 0) = UNKNOWN", "sail(0, 0) = UNKNOWN",
                "voyage(0, 0, 0) = UNKNOWN", "latest(0, 0) = UNKNOWN", "bestWind(0, 0) = UNKNOWN",
                "see(0, 0, 0) = UNKNOWN", "start(0) = UNKNOWN");
        tell("1: No PLAIN: STATE", "plain() = STATE", "wind(0) = STATE", "wind(4) = STATE", "pass(1) = STATE",
                "pass(30) = STATE", "junes(1, 0, 0) = STATE", "junes(20, MAX, 3) = STATE", "image() = STATE",
                "restore() = STATE");
        besideAnotherOne();
    }

    private static void besideAnotherOne() {
        WheatSea one = Due.read(TEXT);
        one.hull(0, 1, 11);
        one.see(0, 11, 0);
        one.image();
        Due.type(one, "12");
        long before = one.digest();
        WheatSea another = new WheatSea();
        for (int what = 0; what <= 8; what++) {
            due.same("1: beside another one, count(" + what + ")", another.count(what), what == 5 ? 4 : 0);
        }
        due.same("1: beside another one, no IMAGE", another.restore(), Due.STATE);
        Due.type(another, "~~~");
        another.blank();
        Due.type(another, "9876,5432,1098;7");
        another.plain();
        another.hull(3, 9, 0);
        another.wind(0);
        another.pass(1);
        another.see(0, 0, 40);
        another.image();
        Due.type(another, "~~~");
        due.same("1: what another one does is nothing to it", one.digest(), before);
        due.same("1: nor to its IMAGE", one.restore(), 0);
        due.same("1: nor to what that keeps", one.digest(), before);
    }

    private static void letter() {
        tell("2: OUTSIDE: code (1 to 126)", "letter(1) = 1", "letter(126) = 2", "letter(0) = OUTSIDE",
                "letter(127) = OUTSIDE", "letter(-1) = OUTSIDE", "letter(MIN) = OUTSIDE", "letter(MAX) = OUTSIDE",
                "letter(128) = OUTSIDE", "letter(65585) = OUTSIDE", "count(7) = 2");
        tell("2: FULL: above 18", "17 x letter(49)", "letter(49) = 18", "letter(49) = FULL", "letter(1) = FULL",
                "letter(126) = FULL", "count(7) = 18");
        tell("2: OUTSIDE comes ahead of FULL", "18 x letter(49)", "letter(0) = OUTSIDE", "letter(127) = OUTSIDE",
                "letter(MIN) = OUTSIDE", "letter(MAX) = OUTSIDE", "letter(49) = FULL");
        tell("2: a letter comes behind THE PAGE: how many it has", "letter(49) = 1", "letter(50) = 2",
                "letter(44) = 3", "fault() = 2", "count(7) = 3");
        tell("2: behind a PLAIN that was read THE PAGE begins anew", "plain " + TEXT, "letter(49) = 1",
                "letter(50) = 2", "count(7) = 2", "count(0) = 3");
        tell("2: with an empty PAGE again", "18 x letter(1)", "blank() = 18", "letter(126) = 1");
    }

    private static void blank() {
        tell("3: how many letters it had: none", "blank() = 0", "count(7) = 0", "blank() = 0");
        tell("3: how many letters it had: one", "letter(1)", "blank() = 1", "count(7) = 0", "blank() = 0");
        tell("3: how many letters it had: all 18", "18 x letter(126)", "blank() = 18", "count(7) = 0", "fault() = 0",
                "plain() = STATE");
        tell("3: THE PAGE alone is empty then", "plain " + TEXT, "hull(0, 1, 11)", "see(0, 11, 0)", "wind(1)",
                "pass(2)", "type 12", "blank() = 2", "count(0) = 3", "count(2) = 1", "count(4) = 2", "count(5) = 1",
                "count(6) = 1", "count(8) = 1");
    }

    /** At each place the least and the greatest letter that a PLAIN has there, and the first that it has not. */
    private static void faultByPlace() {
        for (int place = 0; place < 16; place++) {
            char there = TEXT.charAt(place);
            int least = place == 15 ? '1' : Character.isDigit(there) ? '0' : there;
            int most = Character.isDigit(there) ? '9' : there;
            faultWith(place, least, 16);
            faultWith(place, most, 16);
            faultWith(place, least - 1, place);
            faultWith(place, most + 1, place);
            faultWith(place, 1, place);
            faultWith(place, 126, place);
        }
    }

    private static void faultWith(int place, int code, int want) {
        tell("4: letter " + code + " at place " + place, "type " + TEXT.substring(0, place), "fault() = " + place,
                "letter(" + code + ")", "fault() = " + Math.min(want, place + 1), "type " + TEXT.substring(place + 1),
                "fault() = " + want, "count(7) = 16");
    }

    private static void faultByLength() {
        tell("4: an empty PAGE has no fault: 0", "fault() = 0");
        tell("4: how many letters it has, if there is none", "letter(57)", "fault() = 1", "type 234,", "fault() = 5",
                "type 5678,9012", "fault() = 14", "type ;", "fault() = 15", "type 9", "fault() = 16");
        tell("4: no PLAIN has a letter at 16", "type " + TEXT, "letter(49)", "fault() = 16", "letter(49)",
                "fault() = 16");
        tell("4: the first of several", "type 1234,56x8;9012,0", "fault() = 7");
        tell("4: behind those ahead of it: the first letter", "letter(44)", "type 234,", "fault() = 0");
        tell("4: it does not matter that a PLAIN was read", "plain " + TEXT, "fault() = 0", "type 1,", "fault() = 1");
    }

    private static void plain() {
        tell("5: the least of all CELLS, and REAP 1", "type 0000,0000,0000;1", "plain() = 0", "count(0) = 1");
        tell("5: the most of all CELLS, and REAP 9", "type 9999,9999,9999;9", "plain() = 108", "count(0) = 9");
        tell("5: all CELLS together, the first one and the last one, too", "type 1000,0000,0002;1", "plain() = 3");
        tell("5: CELLS 0 to 11 as told (0 to 3 in the first row)", "plain 1234,5678,9012;9", "cell(0, 0) = 1",
                "cell(3, 0) = 4", "cell(4, 0) = 5", "cell(7, 0) = 8", "cell(8, 0) = 9", "cell(9, 0) = 0",
                "cell(11, 0) = 2");
        tell("5: THE PAGE is empty then", "plain " + TEXT, "count(7) = 0", "blank() = 0", "plain() = STATE");
        tell("5: HOUR 0, no WIND", "plain " + TEXT, "count(4) = 0", "count(5) = 4", "wind(4) = 4");
        tell("5: nothing is there at first", "plain " + TEXT, "count(1) = 0", "count(2) = 0", "count(3) = 0",
                "count(6) = 0", "count(8) = 1", "about(0, 0) = UNKNOWN", "restore() = STATE");
    }

    private static void plainIsNone() {
        tell("5: STATE: an empty PAGE is none", "plain() = STATE", "count(8) = 0", "count(0) = 0");
        for (int many = 1; many < 16; many++) {
            tell("5: STATE: the first " + many + " letters of one are none", "type " + TEXT.substring(0, many),
                    "plain() = STATE", "count(7) = " + many, "count(0) = 0", "count(8) = 0");
        }
        tell("5: STATE: one letter more", "type " + TEXT, "letter(51)", "plain() = STATE", "count(7) = 17");
        tell("5: STATE: two letters more", "type " + TEXT, "type ;3", "plain() = STATE", "count(7) = 18");
        tell("5: STATE: REAP 0", "type 1234,5678,9012;0", "plain() = STATE", "count(0) = 0");
        tell("5: STATE: a letter that is no digit", "type 1234,5678,901/;3", "plain() = STATE");
        tell("5: STATE: a ';' for a ','", "type 1234;5678,9012;3", "plain() = STATE");
        tell("5: STATE leaves the PLAIN that there is", "plain " + TEXT, "hull(0, 1, 11)", "pass(4)",
                "type 1234,5678,9012;", "plain() = STATE", "count(0) = 3", "count(2) = 1", "count(4) = 4",
                "count(7) = 15", "count(8) = 1", "letter(56) = 16", "plain() = 48", "count(0) = 8");
    }

    private static void anotherPlain() {
        String[] lived = {"plain " + TEXT, "hull(0, 1, 11)", "hull(3, 9, 3)", "hull(4, 2, 0)", "wind(2)", "pass(30)",
            "sail(1, 2)", "see(0, 0, 0)", "see(1, 11, 40)", "image()"};
        after(lived, "the HOUR and the WIND", "count(4) = 0", "count(5) = 4", "wind(0) = 4");
        after(lived, "the corn and the REAPER", "cell(0, 0) = 0", "cell(5, 0) = 7", "cell(5, 1) = 7", "cell(11, 0) = 0",
                "cell(0, 2) = 9", "count(0) = 9", "count(1) = 0");
        after(lived, "HULLS", "count(2) = 0", "count(3) = 0", "about(0, 0) = UNKNOWN", "sail(2, 0) = UNKNOWN",
                "cell(11, 3) = 0", "cell(2, 3) = 0", "home(0, 0) = 0", "home(0, 10) = NONE", "hull(1, 1, 5) = 0",
                "about(0, 4) = 0", "hull(1, 1, 5) = 1", "hull(1, 1, 5) = 2", "hull(1, 1, 5) = FULL");
        after(lived, "what is SEEN", "count(6) = 0", "hull(1, 1, 5) = 0", "start(0) = 4095", "see(0, 5, 0) = 1");
        after(lived, "the IMAGE", "restore() = STATE", "image() = 0", "restore() = 0");
        after(lived, "how often a PLAIN was read goes on", "count(8) = 2");
    }

    private static void after(String[] lived, String what, String... steps) {
        String[] all = new String[lived.length + 1 + steps.length];
        System.arraycopy(lived, 0, all, 0, lived.length);
        all[lived.length] = "plain 0000,0700,0000;9";
        System.arraycopy(steps, 0, all, lived.length + 1, steps.length);
        tell("5: another one is gone, with all that was: " + what, all);
    }

    private static void cell() {
        tell("6: UNKNOWN: cell", "plain " + TEXT, "cell(0, 0) = 1", "cell(11, 0) = 2", "cell(-1, 0) = UNKNOWN",
                "cell(12, 0) = UNKNOWN", "cell(MIN, 0) = UNKNOWN", "cell(MAX, 0) = UNKNOWN", "cell(65536, 0) = UNKNOWN");
        tell("6: OUTSIDE: what", "plain " + TEXT, "cell(0, 0) = 1", "cell(0, 3) = 0", "cell(0, -1) = OUTSIDE",
                "cell(0, 4) = OUTSIDE", "cell(0, MIN) = OUTSIDE", "cell(0, MAX) = OUTSIDE", "cell(11, 10) = OUTSIDE");
        tell("6: UNKNOWN comes ahead of OUTSIDE", "plain " + TEXT, "cell(-1, -1) = UNKNOWN", "cell(12, 4) = UNKNOWN",
                "cell(MAX, MIN) = UNKNOWN", "cell(MIN, MAX) = UNKNOWN");
        tell("6: UNKNOWN also without a PLAIN", "cell(0, 0) = UNKNOWN", "cell(11, 2) = UNKNOWN",
                "cell(0, 4) = UNKNOWN", "cell(12, 4) = UNKNOWN", "type " + TEXT, "cell(0, 0) = UNKNOWN");
    }

    private static void reaper() {
        tell("6: at HOUR REAP (1) CELL 0 is cut, an HOUR ahead it is not", "plain 7654,3210,1234;1", "cell(0, 0) = 7",
                "count(1) = 0", "pass(1)", "cell(0, 0) = 0", "count(1) = 1", "cell(1, 0) = 6", "pass(1)",
                "cell(1, 0) = 0", "cell(2, 0) = 5", "count(1) = 2");
        tell("6: at twelve times REAP (1) the last CELL is cut, and stays so", "plain 7654,3210,1234;1", "pass(11)",
                "cell(11, 0) = 4", "cell(10, 0) = 0", "count(1) = 11", "pass(1)", "cell(11, 0) = 0", "count(1) = 12",
                "33 x pass(29)", "cell(11, 0) = 0", "cell(0, 0) = 0", "count(1) = 12");
        tell("6: at HOUR REAP (9) CELL 0 is cut", "plain 7654,3210,1234;9", "pass(8)", "cell(0, 0) = 7", "count(1) = 0",
                "pass(1)", "cell(0, 0) = 0", "count(1) = 1");
        tell("6: at twelve times REAP (9) the last CELL is cut", "plain 7654,3210,1234;9", "3 x pass(30)", "pass(17)",
                "cell(11, 0) = 4", "count(1) = 11", "pass(1)", "cell(11, 0) = 0", "count(1) = 12");
        tell("6: how HIGH it was at HOUR 0, from then on, too", "plain 7654,3210,1234;1", "cell(0, 1) = 7",
                "30 x pass(30)", "cell(0, 1) = 7", "cell(7, 1) = 0", "cell(11, 1) = 4");
        tell("6: the HOUR at which it is cut, the least and the greatest", "plain " + TEXT, "cell(0, 2) = 3",
                "cell(1, 2) = 6", "cell(11, 2) = 36", "plain 0000,0000,0000;1", "cell(0, 2) = 1", "cell(11, 2) = 12",
                "plain 0000,0000,0000;9", "cell(0, 2) = 9", "cell(11, 2) = 108", "4 x pass(30)", "cell(0, 2) = 9",
                "cell(11, 2) = 108");
        tell("6: corn that is 0 HIGH is cut as well", "plain 0000,0000,0000;2", "cell(0, 0) = 0", "count(1) = 0",
                "pass(2)", "cell(0, 0) = 0", "cell(0, 1) = 0", "count(1) = 1");
    }

    private static void hullsOnCells() {
        tell("6: how many HULLS are there: none, one, all three", "plain " + TEXT, "cell(5, 3) = 0", "hull(0, 1, 5)",
                "cell(5, 3) = 1", "hull(3, 1, 5)", "hull(2, 9, 5)", "cell(5, 3) = 3", "cell(4, 3) = 0",
                "cell(6, 3) = 0", "cell(0, 3) = 0", "cell(11, 3) = 0", "sail(1, 3) = 4", "cell(5, 3) = 2",
                "cell(1, 3) = 1");
        tell("6: on the first CELL and the last one", "plain " + TEXT, "hull(0, 1, 0)", "hull(0, 1, 11)",
                "cell(0, 3) = 1", "cell(11, 3) = 1");
    }

    private static void wind() {
        tell("7: OUTSIDE: wind (0 to 4)", "plain " + TEXT, "wind(0) = 4", "wind(4) = 0", "wind(-1) = OUTSIDE",
                "wind(5) = OUTSIDE", "wind(MIN) = OUTSIDE", "wind(MAX) = OUTSIDE", "count(5) = 4");
        tell("7: what it was, the same one again, too", "plain " + TEXT, "wind(4) = 4", "wind(3) = 4", "wind(3) = 3",
                "wind(0) = 3", "wind(0) = 0", "count(5) = 0");
        tell("7: STATE: no PLAIN", "wind(0) = STATE", "wind(4) = STATE", "count(5) = 4");
        tell("7: OUTSIDE comes ahead of STATE", "wind(-1) = OUTSIDE", "wind(5) = OUTSIDE", "wind(MIN) = OUTSIDE",
                "wind(MAX) = OUTSIDE");
        tell("7: a WIND that was refused does not blow", "plain 9999,9999,9999;9", "hull(0, 1, 5)", "wind(1) = 4",
                "wind(5) = OUTSIDE", "wind(-1) = OUTSIDE", "about(0, 11) = 1", "about(0, 13) = NONE");
    }

    private static void pass() {
        tell("8: OUTSIDE: hours (1 to 30)", "plain " + TEXT, "pass(1) = 1", "pass(30) = 31", "pass(0) = OUTSIDE",
                "pass(31) = OUTSIDE", "pass(-1) = OUTSIDE", "pass(MIN) = OUTSIDE", "pass(MAX) = OUTSIDE",
                "count(4) = 31");
        tell("8: STATE: it would be above 999", "plain " + TEXT, "33 x pass(30)", "pass(10) = STATE", "pass(30) = STATE",
                "count(4) = 990", "pass(9) = 999", "pass(1) = STATE", "pass(30) = STATE", "count(4) = 999");
        tell("8: 998 and 1 is not above 999", "plain " + TEXT, "33 x pass(30)", "pass(8) = 998", "pass(2) = STATE",
                "pass(1) = 999");
        tell("8: STATE: no PLAIN", "pass(1) = STATE", "pass(30) = STATE", "count(4) = 0");
        tell("8: OUTSIDE comes ahead of STATE, without a PLAIN", "pass(0) = OUTSIDE", "pass(31) = OUTSIDE",
                "pass(MIN) = OUTSIDE", "pass(MAX) = OUTSIDE");
        tell("8: OUTSIDE comes ahead of STATE, above 999", "plain " + TEXT, "33 x pass(30)", "pass(9)",
                "pass(0) = OUTSIDE", "pass(31) = OUTSIDE", "pass(MAX) = OUTSIDE");
        tell("8: another PLAIN has all its HOURS again", "plain " + TEXT, "33 x pass(30)", "pass(9)", "plain " + TEXT,
                "pass(30) = 30");
    }
}
