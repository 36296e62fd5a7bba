/** Promises 13 to 16: what would be. */
public final class VoyageTest {
    private static final Due due = new Due("VoyageTest");
    private static final String HIGH = "9999,9999,9999;9";

    public static void main(String[] args) {
        voyage();
        firstWays();
        voyageRoundAbout();
        voyageAheadOfTheReaper();
        voyageWhereItIs();
        voyageRefused();
        latest();
        latestAtThisHour();
        latestRefused();
        home();
        homeInOrder();
        homeInAllOrders();
        homeRefused();
        bestWind();
        bestWindRefused();
        due.end();
    }

    private static void voyage() {
        WheatSea x = Due.read(HIGH);
        x.hull(0, 1, 0);
        due.same("13: no WIND, five times 3", x.voyage(0, 11, 0), 15);
        x.wind(0);
        due.same("13: three with it, two across", x.voyage(0, 11, 0), 7);
        x.wind(1);
        due.same("13: three across, two with it", x.voyage(0, 11, 0), 8);
        x.wind(2);
        due.same("13: never against it", x.voyage(0, 11, 0), Due.NONE);
        due.same("13: nor by a first WAY", x.voyage(0, 11, 1), Due.NONE);
        due.same("13: down, across", x.voyage(0, 8, 0), 4);
        x.hull(2, 1, 0);
        due.same("13: a GALLEY, three against it, two across", x.voyage(1, 11, 0), 16);
        x.hull(4, 1, 0);
        due.same("13: a CUTTER, three against it, two across", x.voyage(2, 11, 0), 13);
        x.pass(5);
        due.same("13: by the HOUR, setting out now", x.voyage(0, 8, 0), 9);
        due.same("13: nothing SAILED", x.about(0, 2), 0);
        due.same("13: the HOUR stays", x.count(4), 5);
    }

    private static void firstWays() {
        WheatSea x = Due.read(HIGH);
        x.hull(0, 1, 0);
        due.same("13: of like ones the least WAY", x.voyage(0, 11, 1), 0);
        due.same("13: straight down", x.voyage(0, 8, 1), 1);
        due.same("13: straight right", x.voyage(0, 3, 1), 0);
        x.hull(0, 1, 6);
        due.same("13: left or up", x.voyage(1, 1, 1), 2);
        due.same("13: up", x.voyage(1, 2, 1), 3);
        due.same("13: down or left", x.voyage(1, 9, 1), 1);
        due.same("13: right or down", x.voyage(1, 11, 1), 0);
        // Cell 1 has no corn: the first WAY is down, though right would be less.
        WheatSea y = Due.read("9099,9999,9999;9");
        y.hull(0, 1, 0);
        due.same("13: the only first WAY", y.voyage(0, 2, 1), 1);
        due.same("13: round about", y.voyage(0, 2, 0), 12);
    }

    private static void voyageRoundAbout() {
        // A lane of corn: down by 0 4 8, along 8 9 10 11, up again by 10 6 2 or by 11 7 3.
        WheatSea x = Due.read("2022,2023,2222;9");
        x.hull(2, 2, 0);
        x.wind(1);
        due.same("13: down the lane", x.voyage(0, 8, 0), 2);
        due.same("13: along its foot", x.voyage(0, 10, 0), 6);
        due.same("13: up again, against the WIND", x.voyage(0, 6, 0), 10);
        due.same("13: up again at its end", x.voyage(0, 7, 0), 12);
        due.same("13: by the only first WAY", x.voyage(0, 7, 1), 1);
        due.same("13: cell 2", x.voyage(0, 2, 0), 14);
        due.same("13: where there is no corn", x.voyage(0, 5, 0), Due.NONE);
        // By the first cell and by the last one, as they lie in between.
        WheatSea y = Due.read("1100,1000,1000;9");
        y.hull(0, 1, 8);
        due.same("13: by cell 0", y.voyage(0, 1, 0), 9);
        WheatSea z = Due.read("0001,0001,0011;9");
        z.hull(0, 1, 10);
        due.same("13: by cell 11", z.voyage(0, 3, 0), 9);
        x.hull(0, 3, 7);
        due.same("13: it draws too much there", x.voyage(1, 11, 0), Due.NONE);
    }

    private static void voyageAheadOfTheReaper() {
        // At REAP 1 a cell is cut at its number and 1.
        WheatSea x = Due.read("9999,9999,9999;1");
        x.hull(0, 1, 4);
        due.same("13: 5 at 3, it is cut at 6", x.voyage(0, 5, 0), 3);
        due.same("13: 6 at 6, it is cut at 7", x.voyage(0, 6, 0), 6);
        due.same("13: 7 at 9, it was cut at 8", x.voyage(0, 7, 0), Due.NONE);
        due.same("13: 8 at 3", x.voyage(0, 8, 0), 3);
        due.same("13: 10 at 9", x.voyage(0, 10, 0), 9);
        due.same("13: 11 at 12, just cut", x.voyage(0, 11, 0), Due.NONE);
        due.same("13: 0 was cut", x.voyage(0, 0, 0), Due.NONE);
        x.wind(0);
        due.same("13: with the WIND 7 at 3", x.voyage(0, 7, 0), 3);
        due.same("13: with the WIND 11 at 5", x.voyage(0, 11, 0), 5);
    }

    private static void voyageWhereItIs() {
        WheatSea x = Due.read("0999,9999,9999;2");
        x.hull(0, 1, 0);
        x.hull(0, 1, 5);
        due.same("13: where it is, STRANDED", x.voyage(0, 0, 0), 0);
        due.same("13: by no WAY", x.voyage(0, 0, 1), Due.NONE);
        due.same("13: STRANDED it comes nowhere", x.voyage(0, 1, 0), Due.NONE);
        x.pass(7);
        due.same("13: where it is: now", x.voyage(1, 5, 0), 7);
        due.same("13: where it is, by no WAY", x.voyage(1, 5, 1), Due.NONE);
    }

    private static void voyageRefused() {
        WheatSea x = Due.read(HIGH);
        x.hull(0, 1, 0);
        due.same("13: voyage(1, 0, 0)", x.voyage(1, 0, 0), Due.UNKNOWN);
        due.same("13: voyage(0, 12, 0)", x.voyage(0, 12, 0), Due.UNKNOWN);
        due.same("13: voyage(0, 0, 2)", x.voyage(0, 0, 2), Due.OUTSIDE);
        due.same("13: hull UNKNOWN ahead of OUTSIDE", x.voyage(1, 0, 2), Due.UNKNOWN);
        due.same("13: cell UNKNOWN ahead of OUTSIDE", x.voyage(0, 12, 2), Due.UNKNOWN);
        due.same("13: without a PLAIN", new WheatSea().voyage(0, 0, 0), Due.UNKNOWN);
        for (int wild : Due.WILD) {
            due.same("13: voyage(" + wild + ", 0, 0)", x.voyage(wild, 0, 0), Due.UNKNOWN);
            due.same("13: voyage(0, " + wild + ", 0)", x.voyage(0, wild, 0), Due.UNKNOWN);
            due.same("13: voyage(0, 0, " + wild + ")", x.voyage(0, 0, wild), Due.OUTSIDE);
        }
    }

    private static void latest() {
        WheatSea x = Due.read(HIGH);
        x.hull(0, 1, 0);
        // At REAP 1 cell 11 is cut at 12, at 2 at 24, and it needs 15.
        due.same("14: to cell 11", x.latest(0, 11), 2);
        // At 3 on cell 1, which is cut at twice REAP.
        due.same("14: to cell 1", x.latest(0, 1), 2);
        // At 3 on cell 4, which is cut at five times REAP.
        due.same("14: to cell 4", x.latest(0, 4), 1);
        // By 0 4 5 6 7 3: at 15 there, cut at four times REAP; straight at 9, cells 1 and 2 at 3 and 6.
        due.same("14: to cell 3", x.latest(0, 3), 3);
        due.same("14: to where it is", x.latest(0, 0), 1);
        x.wind(2);
        due.same("14: the WIND as it is", x.latest(0, 1), Due.NONE);
        due.same("14: REAP stays", x.count(0), 9);
        due.same("14: no hour went by", x.count(4), 0);
    }

    private static void latestAtThisHour() {
        WheatSea x = Due.read("9999,9999,9999;1");
        x.hull(0, 1, 8);
        due.same("14: now", x.latest(0, 9), 1);
        x.pass(6);
        // At 9 on cell 9, cut at 10.
        due.same("14: at HOUR 6", x.latest(0, 9), 1);
        x.pass(1);
        due.same("14: at HOUR 7", x.latest(0, 9), 2);
        x.pass(30);
        x.pass(30);
        // HOUR 67: cell 8 is cut at nine times REAP, 72 at 8; cell 9 at 80; there at 70.
        due.same("14: at HOUR 67", x.latest(0, 9), 8);
        x.pass(5);
        // HOUR 72: cell 8 at REAP 9 is cut at 81.
        due.same("14: at HOUR 72", x.latest(0, 9), 9);
        x.pass(9);
        due.same("14: at HOUR 81", x.latest(0, 9), Due.NONE);
        due.same("14: where it is, always", x.latest(0, 8), 1);
    }

    private static void latestRefused() {
        WheatSea x = Due.read(HIGH);
        x.hull(0, 1, 0);
        due.same("14: latest(1, 0)", x.latest(1, 0), Due.UNKNOWN);
        due.same("14: latest(0, 12)", x.latest(0, 12), Due.UNKNOWN);
        due.same("14: without a PLAIN", new WheatSea().latest(0, 0), Due.UNKNOWN);
        for (int wild : Due.WILD) {
            due.same("14: latest(" + wild + ", 0)", x.latest(wild, 0), Due.UNKNOWN);
            due.same("14: latest(0, " + wild + ")", x.latest(0, wild), Due.UNKNOWN);
        }
    }

    private static void home() {
        WheatSea x = Due.read(HIGH);
        x.pass(2);
        homeIs(x, 5, 0, 2, Due.NONE, Due.NONE, Due.NONE);
        x.hull(0, 1, 5);
        homeIs(x, 5, 1, 2, 0, Due.NONE, Due.NONE);
        homeIs(x, 6, 1, 5, 0, Due.NONE, Due.NONE);
        x.hull(2, 1, 4);
        homeIs(x, 6, 2, 11, 0, 1, Due.NONE);
        x.hull(3, 9, 10);
        homeIs(x, 6, 3, 15, 0, 1, 2);
        due.same("15: nothing SAILED", x.about(1, 2), 4);
        due.same("15: the HOUR stays", x.count(4), 2);
    }

    private static void homeInOrder() {
        // Hull 0 is far from the reaper, hull 1 near: 1 must set out ahead.
        WheatSea x = Due.read("9999,9999,9999;1");
        x.hull(0, 1, 8);
        x.hull(0, 1, 6);
        x.pass(1);
        // To cell 10 (cut at 11): hull 1 by 4, hull 0 then by 10; if 0 goes ahead, it is there at 7, and 6 is cut then.
        homeIs(x, 10, 2, 10, 1, 0, Due.NONE);
        // A third that cannot come there stays, and stands as early as it may.
        WheatSea y = Due.read("9999,9999,9999;1");
        y.hull(0, 9, 0);
        y.hull(0, 1, 8);
        y.hull(0, 1, 6);
        y.pass(1);
        homeIs(y, 10, 2, 10, 0, 2, 1);
        // Nobody comes: the first order by numbers, the HOUR as it is.
        WheatSea z = Due.read("0000,0000,0000;1");
        z.hull(0, 9, 0);
        z.hull(0, 9, 1);
        z.hull(0, 9, 2);
        z.pass(3);
        homeIs(z, 11, 0, 3, 0, 1, 2);
        homeIs(z, 2, 1, 3, 0, 1, 2);
        // Two of three can come whoever is ahead: the order that ends soonest.
        WheatSea w = Due.read("9999,9999,9999;1");
        w.wind(0);
        w.hull(0, 1, 4);
        w.hull(0, 1, 3);
        w.hull(0, 1, 5);
        // To cell 7 (cut at 8): 0 in 3 hours, 1 in 2, 2 in 2: 4 is cut at 5, 3 at 4, 5 at 6.
        homeIs(w, 7, 3, 7, 0, 1, 2);
    }

    /**
     * To cell 11, from HOUR 5 at REAP 1: the hull on 7 sails 5 to 8, as 7 is cut at 8; that on 10 sails
     * 8 to 11, as 11 is cut at 12; the SLED sails 11 to 15. In any other order one of them cannot.
     */
    private static void homeInAllOrders() {
        int[][] orders = {{0, 1, 2}, {0, 2, 1}, {1, 0, 2}, {1, 2, 0}, {2, 0, 1}, {2, 1, 0}};
        for (int[] order : orders) {
            WheatSea x = Due.read("9999,9999,9999;1");
            x.pass(5);
            for (int hull = 0; hull < 3; hull++) {
                if (order[0] == hull) {
                    x.hull(0, 1, 7);
                } else if (order[1] == hull) {
                    x.hull(2, 9, 10);
                } else {
                    x.hull(3, 9, 10);
                }
            }
            homeIs(x, 11, 3, 15, order[0], order[1], order[2]);
        }
    }

    private static void homeIs(WheatSea x, int cell, int many, int hour, int first, int second, int third) {
        due.same("15: home(" + cell + ", 0)", x.home(cell, 0), many);
        due.same("15: home(" + cell + ", 1)", x.home(cell, 1), hour);
        due.same("15: home(" + cell + ", 10)", x.home(cell, 10), first);
        due.same("15: home(" + cell + ", 11)", x.home(cell, 11), second);
        due.same("15: home(" + cell + ", 12)", x.home(cell, 12), third);
    }

    private static void homeRefused() {
        WheatSea x = Due.read(HIGH);
        x.hull(0, 1, 0);
        due.same("15: home(12, 0)", x.home(12, 0), Due.UNKNOWN);
        for (int what : new int[] {2, 3, 9, 13}) {
            due.same("15: home(0, " + what + ")", x.home(0, what), Due.OUTSIDE);
        }
        due.same("15: UNKNOWN ahead of OUTSIDE", x.home(12, 2), Due.UNKNOWN);
        due.same("15: without a PLAIN", new WheatSea().home(0, 2), Due.UNKNOWN);
        for (int wild : Due.WILD) {
            due.same("15: home(" + wild + ", 0)", x.home(wild, 0), Due.UNKNOWN);
            due.same("15: home(0, " + wild + ")", x.home(0, wild), Due.OUTSIDE);
        }
    }

    private static void bestWind() {
        WheatSea x = Due.read(HIGH);
        x.hull(0, 1, 5);
        due.same("16: to the right", x.bestWind(0, 6), 0);
        due.same("16: down", x.bestWind(0, 9), 1);
        due.same("16: to the left", x.bestWind(0, 4), 2);
        due.same("16: up", x.bestWind(0, 1), 3);
        due.same("16: right and down, of like ones the least", x.bestWind(0, 10), 0);
        due.same("16: left and down", x.bestWind(0, 8), 1);
        due.same("16: left and up", x.bestWind(0, 0), 2);
        due.same("16: where it is", x.bestWind(0, 5), 0);
        x.wind(3);
        due.same("16: whatever the WIND is now", x.bestWind(0, 9), 1);
        due.same("16: the WIND stays", x.count(5), 3);
        // The only lane goes right, down, down, left: no WIND 0 or 2, and down twice with WIND 1.
        WheatSea y = Due.read("1100,0100,1100;9");
        y.hull(0, 1, 0);
        due.same("16: a lane that goes left in the end", y.bestWind(0, 8), 1);
        // The only lane goes up, right, right, down, down, left: every WIND is against it somewhere.
        WheatSea z = Due.read("0111,0101,0011;9");
        z.hull(0, 1, 5);
        z.hull(2, 1, 5);
        due.same("16: best without WIND", z.bestWind(0, 10), 4);
        due.same("16: a GALLEY has better", z.bestWind(1, 10), 0);
        WheatSea v = Due.read("0000,1111,1001;9");
        v.hull(3, 1, 8);
        v.hull(0, 1, 8);
        v.hull(0, 2, 8);
        due.same("16: a SLED sails straight", v.bestWind(0, 11), 0);
        due.same("16: none", v.bestWind(2, 11), Due.NONE);
        due.same("16: none, but where it is", v.bestWind(2, 8), 0);
    }

    private static void bestWindRefused() {
        WheatSea x = Due.read(HIGH);
        x.hull(0, 1, 0);
        due.same("16: bestWind(1, 0)", x.bestWind(1, 0), Due.UNKNOWN);
        due.same("16: bestWind(0, 12)", x.bestWind(0, 12), Due.UNKNOWN);
        due.same("16: without a PLAIN", new WheatSea().bestWind(0, 0), Due.UNKNOWN);
        for (int wild : Due.WILD) {
            due.same("16: bestWind(" + wild + ", 0)", x.bestWind(wild, 0), Due.UNKNOWN);
            due.same("16: bestWind(0, " + wild + ")", x.bestWind(0, wild), Due.UNKNOWN);
        }
    }
}
