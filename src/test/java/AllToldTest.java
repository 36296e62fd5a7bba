/** Promises 21 to 24: what is told of all. */
public final class AllToldTest {
    private static final Due due = new Due("AllToldTest");
    private static final String HIGH = "9999,9999,9999;9";

    public static void main(String[] args) {
        image();
        imageIsTheLatest();
        imageOfFewerHulls();
        imageKeepsNoPage();
        imageRefused();
        count();
        countRefused();
        digest();
        digestByHand();
        due.end();
    }

    private static WheatSea sailed() {
        WheatSea x = Due.read(HIGH);
        x.hull(0, 2, 5);
        x.hull(4, 1, 0);
        x.wind(1);
        x.sail(0, 0);
        x.sail(1, 1);
        x.see(0, 5, 0);
        x.see(1, 0, 0);
        return x;
    }

    private static void image() {
        WheatSea x = sailed();
        due.same("21: the HOUR", x.image(), 3);
        long kept = x.digest();
        x.wind(4);
        x.sail(0, 2);
        x.pass(9);
        x.forget();
        x.see(1, 3, 9);
        x.see(1, 4, 19);
        x.see(0, 4, 29);
        x.hull(3, 9, 9);
        due.same("22: the HOUR", x.restore(), 3);
        due.same("22: how many HULLS", x.count(2), 2);
        due.same("22: the HULL that came since", x.about(2, 0), Due.UNKNOWN);
        due.same("22: no HULL there", x.cell(9, 3), 0);
        due.same("22: its CELL", x.about(0, 2), 6);
        due.same("22: its HOURS at sea", x.about(0, 4), 2);
        due.same("22: the other's CELL", x.about(1, 2), 4);
        due.same("22: the other's HOURS at sea", x.about(1, 4), 1);
        due.same("22: the HOUR", x.count(4), 3);
        due.same("22: the WIND", x.count(5), 1);
        due.same("22: SEEN", x.count(6), 2);
        due.same("22: SEEN of one", x.start(0), 1 << 5);
        due.same("22: SEEN of the other", x.start(1), 1);
        due.same("22: all as it was", x.digest(), kept);
        x.sail(0, 0);
        x.see(0, 7, 7);
        due.same("22: once more from the same IMAGE", x.restore(), 3);
        due.same("22: all as it was once more", x.digest(), kept);
        due.same("22: the next HULL has the number", x.hull(2, 7, 7), 2);
        due.same("22: and is of its own KIND", x.about(2, 0), 2);
    }

    private static void imageIsTheLatest() {
        WheatSea x = sailed();
        x.image();
        x.pass(10);
        x.hull(3, 9, 9);
        x.see(2, 9, 9);
        due.same("21: a later one", x.image(), 13);
        x.pass(10);
        x.forget();
        due.same("22: from the later one", x.restore(), 13);
        due.same("22: its HULLS", x.count(2), 3);
        due.same("22: its SEEN", x.count(6), 3);
        x.forget();
        x.image();
        x.see(0, 0, 0);
        x.restore();
        due.same("22: nothing was SEEN in the latest", x.count(6), 0);
    }

    private static void imageOfFewerHulls() {
        WheatSea x = Due.read(HIGH);
        due.same("21: of no HULLS", x.image(), 0);
        x.hull(0, 1, 1);
        x.hull(1, 1, 1);
        x.hull(2, 1, 1);
        x.see(2, 1, 1);
        due.same("22: to no HULLS", x.restore(), 0);
        due.same("22: none", x.count(2), 0);
        due.same("22: none STRANDED", x.count(3), 0);
        due.same("22: none SEEN", x.count(6), 0);
        due.same("22: none comes home", x.home(1, 0), 0);
        due.same("22: none is there", x.home(1, 10), Due.NONE);
        due.same("22: none in JUNES", x.junes(3, 5, 3), 5);
        due.same("22: the first HULL", x.hull(3, 8, 2), 0);
        due.same("22: it is new", x.about(0, 1), 8);
        due.same("22: it SAILED no HOURS", x.about(0, 4), 0);
    }

    private static void imageKeepsNoPage() {
        WheatSea x = sailed();
        Due.type(x, "12");
        x.image();
        Due.type(x, "34,");
        x.restore();
        due.same("22: THE PAGE goes on", x.count(7), 5);
        due.same("22: how often a PLAIN was read", x.count(8), 1);
        x.blank();
        Due.type(x, HIGH);
        x.plain();
        due.same("22: another PLAIN since, be it like it", x.restore(), Due.STATE);
        due.same("22: it changed nothing", x.count(2), 0);
        due.same("21: an IMAGE of it", x.image(), 0);
        due.same("22: restore()", x.restore(), 0);
        due.same("22: how often stays", x.count(8), 2);
    }

    private static void imageRefused() {
        WheatSea x = new WheatSea();
        due.same("21: no PLAIN", x.image(), Due.STATE);
        due.same("22: none kept", x.restore(), Due.STATE);
        Due.type(x, HIGH);
        x.plain();
        due.same("22: none kept yet", x.restore(), Due.STATE);
    }

    private static void count() {
        WheatSea x = Due.read("0999,9999,9999;4");
        x.hull(0, 1, 0);
        x.hull(0, 1, 1);
        x.hull(3, 1, 0);
        x.wind(3);
        x.see(0, 0, 0);
        Due.type(x, "abc");
        int[] counts = {4, 0, 3, 1, 0, 3, 1, 3, 1};
        for (int what = 0; what < counts.length; what++) {
            due.same("23: count(" + what + ")", x.count(what), counts[what]);
        }
        for (int hour = 1; hour <= 60; hour++) {
            x.pass(1);
            due.same("23: count(1) at " + hour, x.count(1), Math.min(12, hour / 4));
            due.same("23: count(3) at " + hour, x.count(3), hour >= 8 ? 2 : 1);
            due.same("23: count(4) at " + hour, x.count(4), hour);
        }
    }

    private static void countRefused() {
        WheatSea x = Due.read(HIGH);
        due.same("23: count(9)", x.count(9), Due.OUTSIDE);
        due.same("23: count(9) without a PLAIN", new WheatSea().count(9), Due.OUTSIDE);
        for (int wild : Due.WILD) {
            due.same("23: count(" + wild + ")", x.count(wild), Due.OUTSIDE);
        }
    }

    private static void digest() {
        WheatSea x = new WheatSea();
        due.same("24: a new object", x.digest(), told(x, ""));
        Due.type(x, "z,");
        due.same("24: a page", x.digest(), told(x, "z,"));
        x = sailed();
        due.same("24: of hulls", x.digest(), told(x, ""));
        due.same("24: it changes nothing", x.digest(), told(x, ""));
        // Another object, as what one answers behind 512 calls is free.
        x = sailed();
        Due.type(x, "123456789012345678");
        x.pass(30);
        x.hull(3, 1, 9);
        due.same("24: with a full page", x.digest(), told(x, "123456789012345678"));
        x.blank();
        due.same("24: with an empty page", x.digest(), told(x, ""));
    }

    /** The digest by what the other calls tell. */
    static long told(WheatSea x, String page) {
        long h = 863;
        for (int cell = 0; cell < 12 && x.count(0) > 0; cell++) {
            for (int what = 0; what < 4; what++) {
                h = 31 * h + x.cell(cell, what);
            }
        }
        for (int hull = 0; hull < x.count(2); hull++) {
            for (int what : new int[] {0, 1, 2, 3, 4, 10, 11, 12, 13}) {
                h = 31 * h + x.about(hull, what);
            }
            for (int cell = 0; cell < 12; cell++) {
                h = 31 * h + x.voyage(hull, cell, 0);
            }
            h = 31 * h + x.start(hull);
        }
        for (int i = 0; i < page.length(); i++) {
            h = 31 * h + page.charAt(i);
        }
        for (int what = 0; what < 9; what++) {
            h = 31 * h + x.count(what);
        }
        return h;
    }

    private static void digestByHand() {
        long h = 863;
        for (int count : new int[] {0, 0, 0, 0, 0, 4, 0, 0, 0}) {
            h = 31 * h + count;
        }
        due.same("24: a new object, by hand", new WheatSea().digest(), h);
    }
}
