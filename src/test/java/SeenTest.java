/** Promises 17 to 20: what was seen, and Junes. */
public final class SeenTest {
    private static final Due due = new Due("SeenTest");
    private static final String HIGH = "9999,9999,9999;9";
    private static final int ALL = 4095;

    public static void main(String[] args) {
        see();
        seeRefused();
        forget();
        start();
        startUnderWay();
        startByWindAndReaper();
        startOfOneOfThem();
        startLate();
        startRefused();
        junes();
        junesOfMany();
        junesStranded();
        junesRefused();
        due.end();
    }

    private static int bits(int... cells) {
        int bits = 0;
        for (int cell : cells) {
            bits |= 1 << cell;
        }
        return bits;
    }

    private static void see() {
        WheatSea x = Due.read(HIGH);
        x.hull(0, 1, 5);
        x.hull(0, 1, 6);
        due.same("17: see(0, 5, 0)", x.see(0, 5, 0), 1);
        due.same("17: see(1, 11, 40)", x.see(1, 11, 40), 2);
        due.same("17: the same again is SEEN, too", x.see(1, 11, 40), 3);
        due.same("17: somewhere else at that HOUR", x.see(1, 0, 40), 4);
        due.same("17: see(0, 0, 7)", x.see(0, 0, 7), 5);
        due.same("17: the sixth", x.see(0, 0, 8), 6);
        due.same("17: a seventh", x.see(0, 0, 9), Due.FULL);
        due.same("17: hull UNKNOWN ahead of FULL", x.see(2, 0, 9), Due.UNKNOWN);
        due.same("17: cell UNKNOWN ahead of FULL", x.see(0, 12, 9), Due.UNKNOWN);
        due.same("17: OUTSIDE ahead of FULL", x.see(0, 0, 41), Due.OUTSIDE);
        due.same("17: six", x.count(6), 6);
    }

    private static void seeRefused() {
        WheatSea x = Due.read(HIGH);
        x.hull(0, 1, 5);
        due.same("17: see(1, 0, 0)", x.see(1, 0, 0), Due.UNKNOWN);
        due.same("17: see(0, 12, 0)", x.see(0, 12, 0), Due.UNKNOWN);
        due.same("17: see(0, 0, 41)", x.see(0, 0, 41), Due.OUTSIDE);
        due.same("17: hull UNKNOWN ahead of OUTSIDE", x.see(1, 0, 41), Due.UNKNOWN);
        due.same("17: cell UNKNOWN ahead of OUTSIDE", x.see(0, 12, 41), Due.UNKNOWN);
        due.same("17: without a PLAIN", new WheatSea().see(0, 0, 0), Due.UNKNOWN);
        for (int wild : Due.WILD) {
            due.same("17: see(" + wild + ", 0, 0)", x.see(wild, 0, 0), Due.UNKNOWN);
            due.same("17: see(0, " + wild + ", 0)", x.see(0, wild, 0), Due.UNKNOWN);
            due.same("17: see(0, 0, " + wild + ")", x.see(0, 0, wild), Due.OUTSIDE);
        }
        due.same("17: refusals changed nothing", x.count(6), 0);
        due.same("17: nor START", x.start(0), ALL);
    }

    private static void forget() {
        WheatSea x = Due.read(HIGH);
        x.hull(0, 1, 5);
        due.same("18: nothing yet", x.forget(), 0);
        x.see(0, 5, 0);
        x.see(0, 5, 1);
        due.same("18: two", x.forget(), 2);
        due.same("18: none is left", x.count(6), 0);
        due.same("18: START is free again", x.start(0), ALL);
        due.same("18: nothing again", x.forget(), 0);
        for (int many = 1; many <= 6; many++) {
            due.same("18: see() behind it", x.see(0, 5, 2), many);
        }
        due.same("18: six", x.forget(), 6);
        due.same("18: before a PLAIN", new WheatSea().forget(), 0);
    }

    private static void start() {
        WheatSea x = Due.read(HIGH);
        x.hull(0, 1, 11);
        due.same("19: never SEEN", x.start(0), ALL);
        x.see(0, 5, 0);
        due.same("19: SEEN at HOUR 0", x.start(0), bits(5));
        x.forget();
        x.see(0, 5, 2);
        due.same("19: too soon to have come", x.start(0), bits(5));
        x.forget();
        x.see(0, 5, 3);
        due.same("19: from beside", x.start(0), bits(1, 4, 5, 6, 9));
        x.see(0, 1, 0);
        due.same("19: SEEN twice", x.start(0), bits(1));
        x.see(0, 6, 0);
        due.same("19: SEEN on two cells at an HOUR", x.start(0), 0);
        x.forget();
        x.see(0, 5, 6);
        due.same("19: two away, or lying a while", x.start(0), bits(0, 1, 2, 4, 5, 6, 7, 8, 9, 10));
        x.see(0, 4, 3);
        due.same("19: by 4", x.start(0), bits(0, 4, 5, 8));
        x.pass(30);
        due.same("19: the HOUR does not matter", x.start(0), bits(0, 4, 5, 8));
        x.sail(0, 2);
        due.same("19: nor where it is", x.start(0), bits(0, 4, 5, 8));
    }

    private static void startUnderWay() {
        for (int seenAt = 0; seenAt <= 6; seenAt++) {
            // From 1 to 5 it is under way for HOURS 1 and 2, if it sets out at 0, and so on.
            WheatSea x = Due.read(HIGH);
            x.hull(0, 1, 0);
            x.see(0, 1, 0);
            x.see(0, 5, 5);
            x.see(0, 1, seenAt);
            due.same("19: SEEN on 1 at " + seenAt, x.start(0), seenAt <= 2 ? bits(1) : 0);
            x.forget();
            x.see(0, 1, 0);
            x.see(0, 5, 5);
            x.see(0, 5, seenAt);
            due.same("19: SEEN on 5 at " + seenAt, x.start(0), seenAt >= 3 ? bits(1) : 0);
            x.forget();
            x.see(0, 1, 0);
            x.see(0, 5, 5);
            x.see(0, 6, seenAt);
            due.same("19: SEEN on 6 at " + seenAt, x.start(0), 0);
        }
        WheatSea y = Due.read(HIGH);
        y.hull(2, 1, 0);
        y.wind(2);
        y.see(0, 6, 4);
        y.see(0, 5, 0);
        due.same("19: a GALLEY, four HOURS against it", y.start(0), bits(5));
        y.see(0, 6, 3);
        due.same("19: SEEN in its last HOUR under way", y.start(0), 0);
    }

    private static void startByWindAndReaper() {
        WheatSea x = Due.read(HIGH);
        x.hull(0, 1, 0);
        x.see(0, 5, 1);
        int[] from = {4, 1, 6, 9};
        for (int wind = 0; wind < 4; wind++) {
            x.wind(wind);
            due.same("19: by WIND " + wind, x.start(0), bits(5, from[wind]));
        }
        x.wind(4);
        due.same("19: without WIND", x.start(0), bits(5));

        WheatSea y = Due.read("9999,9999,9999;1");
        y.hull(0, 1, 11);
        y.hull(3, 9, 11);
        y.see(0, 0, 3);
        y.see(1, 0, 4);
        due.same("19: it is cut when one comes there", y.start(0), bits(0));
        due.same("19: a SLED comes there", y.start(1), bits(0, 1, 4));
        y.forget();
        y.see(0, 4, 3);
        due.same("19: cells that are cut at 1 to 12", y.start(0), bits(0, 4, 5, 8));
        y.forget();
        y.see(0, 4, 5);
        // It lies there in stubble at 5; to come there it had to be there at 4 at last.
        due.same("19: STRANDED there since", y.start(0), bits(0, 4, 5, 8));
        y.forget();
        y.see(0, 4, 40);
        due.same("19: long STRANDED there", y.start(0), bits(0, 4, 5, 8));

        WheatSea z = Due.read("0000,0000,0000;9");
        z.hull(0, 1, 0);
        z.see(0, 5, 40);
        due.same("19: it lay STRANDED all the time", z.start(0), bits(5));
        z.see(0, 5, 3);
        due.same("19: SEEN again where it lay", z.start(0), bits(5));
        z.see(0, 6, 40);
        due.same("19: nowhere", z.start(0), 0);
    }

    private static void startOfOneOfThem() {
        WheatSea x = Due.read(HIGH);
        x.hull(0, 1, 0);
        x.hull(0, 1, 0);
        x.hull(0, 1, 0);
        x.see(1, 5, 2);
        x.see(2, 6, 2);
        due.same("19: of hull 0", x.start(0), ALL);
        due.same("19: of hull 1", x.start(1), bits(5));
        due.same("19: of hull 2", x.start(2), bits(6));
    }

    private static void startLate() {
        WheatSea x = Due.read(HIGH);
        x.hull(3, 9, 0);
        x.see(0, 0, 19);
        due.same("19: a SLED needs 20 from afar", x.start(0), ALL - bits(11));
        x.forget();
        x.see(0, 0, 20);
        due.same("19: it has 20", x.start(0), ALL);
        x.forget();
        x.see(0, 0, 40);
        x.see(0, 11, 20);
        due.same("19: there and back", x.start(0), ALL);
        x.see(0, 0, 0);
        due.same("19: there and back from 0", x.start(0), bits(0));
        x.see(0, 0, 39);
        due.same("19: back an HOUR too soon", x.start(0), 0);
    }

    private static void startRefused() {
        WheatSea x = Due.read(HIGH);
        x.hull(0, 1, 0);
        due.same("19: start(1)", x.start(1), Due.UNKNOWN);
        due.same("19: without a PLAIN", new WheatSea().start(0), Due.UNKNOWN);
        for (int wild : Due.WILD) {
            due.same("19: start(" + wild + ")", x.start(wild), Due.UNKNOWN);
        }
    }

    private static void junes() {
        // From SEED 0: 12345 (WIND 0), 1406932606 (WAY 0), 654583775 (WIND 3), 1449466924 (WAY 1).
        WheatSea x = Due.read(HIGH);
        x.hull(0, 1, 5);
        junesAre(x, 1, 0, 0, 0, 1, 1406932606);
        // Down, while it blows up: it cannot.
        junesAre(x, 2, 0, 1, 0, 1, 1449466924);
        // From the last SEED: 1043980748 (no WIND), 288979989 (down), 646343466 (WIND 2), 1751031067 (left).
        junesAre(x, 1, 2147483647, 0, 0, 3, 288979989);
        junesAre(x, 2, 2147483647, 0, 0, 4, 1751031067);
        due.same("20: nothing SAILED", x.about(0, 2), 5);
        due.same("20: no HOURS SAILED", x.about(0, 4), 0);
        due.same("20: the HOUR stays", x.count(4), 0);
        due.same("20: the WIND stays", x.count(5), 4);
        x.pass(7);
        junesAre(x, 2, 2147483647, 0, 0, 11, 1751031067);
    }

    private static void junesAre(WheatSea x, int times, int seed, int could, int stranded, int hour, int then) {
        String call = "20: junes(" + times + ", " + seed + ", ";
        due.same(call + "0)", x.junes(times, seed, 0), could);
        due.same(call + "1)", x.junes(times, seed, 1), stranded);
        due.same(call + "2)", x.junes(times, seed, 2), hour);
        due.same(call + "3)", x.junes(times, seed, 3), then);
    }

    private static void junesOfMany() {
        WheatSea x = Due.read(HIGH);
        junesAre(x, 20, 77, 0, 0, 0, 77);
        x.hull(0, 1, 5);
        x.hull(2, 1, 5);
        // The HULL right in 1, the GALLEY down against the WIND in 4.
        junesAre(x, 1, 0, 0, 0, 5, 1449466924);
        WheatSea y = Due.read(HIGH);
        y.hull(2, 1, 5);
        y.hull(0, 1, 5);
        // The GALLEY right in 1, the HULL cannot.
        junesAre(y, 1, 0, 1, 0, 1, 1449466924);
    }

    private static void junesStranded() {
        WheatSea x = Due.read("0000,0999,0000;1");
        x.hull(0, 1, 5);
        x.hull(0, 1, 0);
        x.pass(5);
        // At 6 it is on cell 6, cut at 7; the other is STRANDED and cannot.
        junesAre(x, 1, 0, 1, 1, 6, 1449466924);
        x.pass(1);
        // At 6 cell 5 is cut.
        junesAre(x, 1, 0, 2, 2, 6, 1449466924);
        // There is no cell that WAY: a hull in the last column cannot go right.
        WheatSea y = Due.read(HIGH);
        y.hull(0, 1, 7);
        junesAre(y, 1, 0, 1, 0, 0, 1406932606);
    }

    private static void junesRefused() {
        WheatSea x = Due.read(HIGH);
        x.hull(0, 1, 5);
        due.same("20: junes(0, 1, 0)", x.junes(0, 1, 0), Due.OUTSIDE);
        due.same("20: junes(21, 1, 0)", x.junes(21, 1, 0), Due.OUTSIDE);
        due.same("20: junes(1, -1, 0)", x.junes(1, -1, 0), Due.OUTSIDE);
        due.same("20: junes(1, 1, 4)", x.junes(1, 1, 4), Due.OUTSIDE);
        due.same("20: junes(20, 0, 1)", x.junes(20, 0, 1) >= 0 ? 1 : 0, 1);
        for (int wild : Due.WILD) {
            due.same("20: junes(" + wild + ", 1, 0)", x.junes(wild, 1, 0), Due.OUTSIDE);
            due.same("20: junes(1, 1, " + wild + ")", x.junes(1, 1, wild), Due.OUTSIDE);
        }
        due.same("20: junes(1, MIN_VALUE, 0)", x.junes(1, Integer.MIN_VALUE, 0), Due.OUTSIDE);
        WheatSea none = new WheatSea();
        due.same("20: STATE", none.junes(1, 1, 0), Due.STATE);
        due.same("20: times OUTSIDE ahead of STATE", none.junes(0, 1, 0), Due.OUTSIDE);
        due.same("20: seed OUTSIDE ahead of STATE", none.junes(1, -1, 0), Due.OUTSIDE);
        due.same("20: what OUTSIDE ahead of STATE", none.junes(1, 1, 4), Due.OUTSIDE);
    }
}
