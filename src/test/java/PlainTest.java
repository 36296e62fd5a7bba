/** Promises 1 to 8: the plain. */
public final class PlainTest {
    private static final Due due = new Due("PlainTest");
    private static final String TEXT = "1234,5678,9012;3";

    public static void main(String[] args) {
        newObject();
        constants();
        letter();
        blank();
        fault();
        plain();
        plainIsNone();
        plainAnew();
        cell();
        wind();
        pass();
        due.end();
    }

    private static void newObject() {
        WheatSea x = new WheatSea();
        int[] counts = {0, 0, 0, 0, 0, 4, 0, 0, 0};
        for (int what = 0; what < counts.length; what++) {
            due.same("1: count(" + what + ")", x.count(what), counts[what]);
        }
        for (int cell = 0; cell < 12; cell++) {
            due.same("1: cell(" + cell + ", 1)", x.cell(cell, 1), Due.UNKNOWN);
        }
        due.same("1: plain()", x.plain(), Due.STATE);
        due.same("1: image()", x.image(), Due.STATE);
        due.same("1: restore()", x.restore(), Due.STATE);
        due.same("1: wind(0)", x.wind(0), Due.STATE);
        due.same("1: pass(1)", x.pass(1), Due.STATE);
        due.same("1: about(0, 0)", x.about(0, 0), Due.UNKNOWN);
        due.same("1: fault()", x.fault(), 0);
        due.same("1: blank()", x.blank(), 0);
        due.same("1: forget()", x.forget(), 0);
    }

    private static void constants() {
        due.same("NONE", WheatSea.NONE, -1);
        due.same("UNKNOWN", WheatSea.UNKNOWN, -101);
        due.same("OUTSIDE", WheatSea.OUTSIDE, -102);
        due.same("STATE", WheatSea.STATE, -103);
        due.same("FULL", WheatSea.FULL, -104);
    }

    private static void letter() {
        WheatSea x = new WheatSea();
        due.same("2: letter(1)", x.letter(1), 1);
        due.same("2: letter(126)", x.letter(126), 2);
        due.same("2: letter(0)", x.letter(0), Due.OUTSIDE);
        due.same("2: letter(127)", x.letter(127), Due.OUTSIDE);
        for (int code : Due.WILD) {
            due.same("2: letter(" + code + ")", x.letter(code), Due.OUTSIDE);
        }
        due.same("2: count(7), refusals added nothing", x.count(7), 2);
        for (int many = 3; many <= 18; many++) {
            due.same("2: the letter number " + many, x.letter(48), many);
        }
        due.same("2: one above 18", x.letter(48), Due.FULL);
        due.same("2: OUTSIDE comes ahead of FULL", x.letter(127), Due.OUTSIDE);
        due.same("2: count(7), the full page", x.count(7), 18);
    }

    private static void blank() {
        WheatSea x = new WheatSea();
        Due.type(x, "x234");
        due.same("3: blank()", x.blank(), 4);
        due.same("3: count(7)", x.count(7), 0);
        due.same("3: fault()", x.fault(), 0);
        due.same("3: blank() again", x.blank(), 0);
        Due.type(x, "0123456789abcdefgh");
        due.same("3: blank() of a full page", x.blank(), 18);
        due.same("3: letter(57) behind it", x.letter(57), 1);
    }

    private static void fault() {
        faultOf("", 0);
        faultOf("0", 1);
        faultOf("9", 1);
        faultOf("/", 0);
        faultOf(":", 0);
        faultOf(",", 0);
        faultOf("1x3y", 1);
        faultOf("1234", 4);
        faultOf("12345", 4);
        faultOf("1234;", 4);
        faultOf("1234,", 5);
        faultOf("1234,,", 5);
        faultOf("1234,5678", 9);
        faultOf("1234,56789", 9);
        faultOf("1234,5678,9012", 14);
        faultOf("1234,5678,9012,", 14);
        faultOf("1234,5678,90123", 14);
        faultOf("1234,5678,9012;", 15);
        faultOf("1234,5678,9012;0", 15);
        faultOf("1234,5678,9012;:", 15);
        faultOf("1234,5678,9012;1", 16);
        faultOf("1234,5678,9012;9", 16);
        faultOf("1234,5678,9012;99", 16);
        faultOf("1234,5678,9012;9;9", 16);
        for (int place = 0; place < TEXT.length(); place++) {
            char[] signs = TEXT.toCharArray();
            signs[place] = '.';
            faultOf(new String(signs), place);
        }
    }

    private static void faultOf(String text, int want) {
        WheatSea x = new WheatSea();
        Due.type(x, text);
        due.same("4: fault() of '" + text + "'", x.fault(), want);
        due.same("4: count(7) behind fault() of '" + text + "'", x.count(7), text.length());
        boolean whole = want == 16 && text.length() == 16;
        int sum = 0;
        for (int i = 0; whole && i < 14; i++) {
            sum += text.charAt(i) == ',' ? 0 : text.charAt(i) - '0';
        }
        due.same("5: plain() of '" + text + "'", x.plain(), whole ? sum : Due.STATE);
    }

    private static void plain() {
        WheatSea x = new WheatSea();
        Due.type(x, TEXT);
        due.same("5: plain()", x.plain(), 48);
        due.same("5: THE PAGE is empty", x.count(7), 0);
        due.same("5: REAP", x.count(0), 3);
        due.same("5: the HOUR", x.count(4), 0);
        due.same("5: no WIND", x.count(5), 4);
        due.same("5: how often", x.count(8), 1);
        int[] high = {1, 2, 3, 4, 5, 6, 7, 8, 9, 0, 1, 2};
        for (int cell = 0; cell < 12; cell++) {
            due.same("5: cell(" + cell + ", 0)", x.cell(cell, 0), high[cell]);
        }
        due.same("5: the least", sumOf("0000,0000,0000;1"), 0);
        due.same("5: the most", sumOf("9999,9999,9999;9"), 108);
    }

    private static int sumOf(String text) {
        WheatSea x = new WheatSea();
        Due.type(x, text);
        return x.plain();
    }

    private static void plainIsNone() {
        WheatSea x = Due.read(TEXT);
        x.hull(0, 1, 11);
        x.pass(2);
        long before = x.digest();
        due.same("5: plain() of an empty page", x.plain(), Due.STATE);
        due.same("5: STATE changes nothing", x.digest(), before);
        Due.type(x, "1234,5678,9012;");
        due.same("5: plain() of a short page", x.plain(), Due.STATE);
        due.same("5: the page stands", x.count(7), 15);
        due.same("5: no plain more", x.count(8), 1);
        due.same("5: the hull stands", x.count(2), 1);
        x.letter('7');
        due.same("5: plain() of the page made whole", x.plain(), 48);
        due.same("5: the other REAP", x.count(0), 7);
    }

    private static void plainAnew() {
        WheatSea x = Due.read(TEXT);
        x.hull(0, 1, 11);
        x.hull(3, 1, 11);
        x.wind(2);
        x.pass(5);
        x.see(0, 11, 3);
        x.image();
        Due.type(x, "0000,1000,0000;9");
        due.same("5: another plain()", x.plain(), 1);
        int[] counts = {9, 0, 0, 0, 0, 4, 0, 0, 2};
        for (int what = 0; what < counts.length; what++) {
            due.same("5: count(" + what + ") of another plain", x.count(what), counts[what]);
        }
        due.same("5: its hulls are gone", x.about(0, 0), Due.UNKNOWN);
        due.same("5: none is on a cell", x.cell(11, 3), 0);
        due.same("22: the image is gone", x.restore(), Due.STATE);
        due.same("5: its first hull is number 0", x.hull(0, 1, 4), 0);
        due.same("5: the new one has sailed no hours", x.about(0, 4), 0);
        due.same("5: the new one was not seen", x.start(0), 4095);
    }

    private static void cell() {
        WheatSea x = Due.read(TEXT);
        int[] high = {1, 2, 3, 4, 5, 6, 7, 8, 9, 0, 1, 2};
        for (int cell = 0; cell < 12; cell++) {
            due.same("6: cell(" + cell + ", 2)", x.cell(cell, 2), 3 * (cell + 1));
        }
        // An object of its own for each cell, as what it answers behind 512 calls is free.
        for (int cell = 0; cell < 12; cell++) {
            WheatSea y = Due.read(TEXT);
            for (int hour = 0; hour <= 40; hour++) {
                int now = hour >= 3 * (cell + 1) ? 0 : high[cell];
                due.same("6: cell(" + cell + ", 0) at " + hour, y.cell(cell, 0), now);
                due.same("6: cell(" + cell + ", 1) at " + hour, y.cell(cell, 1), high[cell]);
                y.pass(1);
            }
        }
        x.hull(0, 1, 7);
        x.hull(3, 1, 7);
        x.hull(1, 1, 0);
        WheatSea soon = Due.read("9876,5432,1098;1");
        due.same("6: cell(0, 1) is told as at HOUR 0, ahead of all cuts", soon.cell(0, 1), 9);
        soon.pass(1);
        due.same("6: cell(0, 0), cut at HOUR 1", soon.cell(0, 0), 0);
        due.same("6: cell(0, 1) stays", soon.cell(0, 1), 9);
        due.same("6: two hulls on a cell", x.cell(7, 3), 2);
        due.same("6: one hull on a cell", x.cell(0, 3), 1);
        due.same("6: no hull on a cell", x.cell(1, 3), 0);
        due.same("6: cell(12, 0)", x.cell(12, 0), Due.UNKNOWN);
        due.same("6: cell(0, 4)", x.cell(0, 4), Due.OUTSIDE);
        due.same("6: UNKNOWN comes ahead of OUTSIDE", x.cell(12, 4), Due.UNKNOWN);
        due.same("6: UNKNOWN without a PLAIN", new WheatSea().cell(0, 4), Due.UNKNOWN);
        for (int wild : Due.WILD) {
            due.same("6: cell(" + wild + ", 0)", x.cell(wild, 0), Due.UNKNOWN);
            due.same("6: cell(0, " + wild + ")", x.cell(0, wild), Due.OUTSIDE);
        }
    }

    private static void wind() {
        WheatSea x = Due.read(TEXT);
        due.same("7: wind(0)", x.wind(0), 4);
        due.same("7: wind(3)", x.wind(3), 0);
        due.same("7: wind(3) again", x.wind(3), 3);
        due.same("7: wind(4)", x.wind(4), 3);
        due.same("7: wind(1)", x.wind(1), 4);
        due.same("7: wind(5)", x.wind(5), Due.OUTSIDE);
        for (int wild : Due.WILD) {
            due.same("7: wind(" + wild + ")", x.wind(wild), Due.OUTSIDE);
        }
        due.same("7: refusals change nothing", x.count(5), 1);
        due.same("7: the HOUR stays", x.count(4), 0);
        WheatSea none = new WheatSea();
        due.same("7: STATE", none.wind(4), Due.STATE);
        due.same("7: OUTSIDE comes ahead of STATE", none.wind(5), Due.OUTSIDE);
    }

    private static void pass() {
        WheatSea x = Due.read(TEXT);
        due.same("8: pass(1)", x.pass(1), 1);
        due.same("8: pass(30)", x.pass(30), 31);
        due.same("8: pass(0)", x.pass(0), Due.OUTSIDE);
        due.same("8: pass(31)", x.pass(31), Due.OUTSIDE);
        for (int wild : Due.WILD) {
            due.same("8: pass(" + wild + ")", x.pass(wild), Due.OUTSIDE);
        }
        due.same("8: refusals change nothing", x.count(4), 31);
        for (int hour = 61; hour <= 991; hour += 30) {
            due.same("8: pass(30) to " + hour, x.pass(30), hour);
        }
        due.same("8: pass(9) above 999", x.pass(9), Due.STATE);
        due.same("8: pass(8) to 999", x.pass(8), 999);
        due.same("8: pass(1) above 999", x.pass(1), Due.STATE);
        due.same("8: OUTSIDE comes ahead of STATE", x.pass(31), Due.OUTSIDE);
        due.same("8: the HOUR stays", x.count(4), 999);
        WheatSea none = new WheatSea();
        due.same("8: STATE without a PLAIN", none.pass(1), Due.STATE);
        due.same("8: OUTSIDE without a PLAIN", none.pass(0), Due.OUTSIDE);
        due.same("8: no HOUR went by", none.count(4), 0);
    }
}
