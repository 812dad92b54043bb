/** Promises 15 to 25, by answers worked out by hand. */
public final class ForetoldTest {
    /** Four roots at 1, 3, 5, 7: each reaches only the next. */
    private static final String CHAIN = "t9,1;o0,1,1,0;o1,2,1,0;o2,3,1,0;o3,4,1,0;";
    /** The same, but each reaches the one behind the next, too. */
    private static final String WIDE = "t9,2;o0,1,1,0;o1,2,1,0;o2,3,1,0;o3,4,1,0;";
    /** A cord that swings from 1 up to 11, and roots at 5, 9, 13. */
    private static final String SWUNG = "t9,2;c0,1,1,5;o2,3,1,0;o4,5,1,0;o6,7,1,0;";
    private static final Expect e = new Expect();

    public static void main(String[] args) {
        tellsWhere();
        tellsDips();
        tellsWhoIsDown();
        tellsReach();
        meets();
        endsBehind60Minutes();
        givesBeforeItIsDown();
        givesSoonest();
        givesByFewest();
        goesEverywhere();
        stops();
        slings();
        fitsSorts();
        fitsSwings();
        fitsLoads();
        refusesFits();
        breaks();
        refusesBreaks();
        changesNothing();
        e.end();
    }

    private static void tellsWhere() {
        HammockReach x = Expect.read("t20,0;c0,3,5,2;v1,4,6,3;o2,5,1,4;r0,7,1,3;s0,9,8,1;c1,2,1,0;");
        places(x, 0, new int[] {3, 5, 7, 5, 3, 1, -1, 1, 3, 5});
        places(x, 1, new int[] {5, 5, 7, 7, 9, 9, 11, 11, 9, 9, 7, 7, 5, 5, 3});
        places(x, 2, new int[] {15, 15, 15});
        places(x, 3, new int[] {7, 7, 7});
        places(x, 4, new int[] {9, 11, 9, 7, 9});
        places(x, 5, new int[] {3, 3, 3});
        x.minutes(5);
        e.is("from now on", x.ahead(0, 1, 0), -1);
        e.is("60, 65 is 1 of 8", x.ahead(0, 60, 0), 5);
        e.is("61", x.ahead(0, 61, 0), Expect.BAD);
        e.is("-1", x.ahead(0, -1, 0), Expect.BAD);
        e.is("what 2", x.ahead(0, 0, 2), Expect.BAD);
        e.is("what -1", x.ahead(0, 0, -1), Expect.BAD);
        e.is("hammock 6", x.ahead(6, 0, 0), Expect.BAD);
    }

    private static void places(HammockReach x, int h, int[] due) {
        for (int d = 0; d < due.length; d++) {
            e.is("ahead(" + h + ", " + d + ", 0)", x.ahead(h, d, 0), due[d]);
        }
    }

    private static void tellsDips() {
        HammockReach x = Expect.read("t20,0;c0,3,5,2;v1,4,6,3;o2,9,9,4;r0,7,9,3;s0,10,8,1;s0,3,8,1;");
        int[] due = {6, 7, 0, 7, 6, 4};
        for (int h = 0; h < 6; h++) {
            e.is("ahead(" + h + ", 0, 1)", x.ahead(h, 0, 1), due[h]);
            e.is("ahead(" + h + ", 60, 1)", x.ahead(h, 60, 1), h == 1 ? 13 : due[h]);
        }
        e.is("9 minutes", x.ahead(1, 9, 1), 7);
        e.is("10 minutes", x.ahead(1, 10, 1), 8);
        x.minutes(9);
        e.is("of all minutes so far", x.ahead(1, 1, 1), 8);
    }

    private static void tellsWhoIsDown() {
        HammockReach x = Expect.read("t6,0;c0,2,5,0;c0,4,5,0;v0,1,6,0;r0,6,1,0;r0,7,1,0;o0,9,20,0;");
        e.is("more than HIGH", x.down(0), 18);
        e.is("9", x.down(9), 18);
        e.is("10", x.down(10), 22);
        x.cord(5, 1);
        e.is("cut", x.down(60), 54);
        e.is("61", x.down(61), Expect.BAD);
        e.is("-1", x.down(-1), Expect.BAD);
    }

    private static void tellsReach() {
        HammockReach x = Expect.read(SWUNG);
        e.is("as far as twice ARM", x.reach(0, 0), 2);
        e.is("without itself", x.reach(1, 0), 5);
        e.is("at 3", x.reach(0, 1), 2);
        e.is("at 5", x.reach(0, 2), 6);
        e.is("at 9", x.reach(0, 4), 14);
        x.cord(2, 1);
        e.is("whoever is down gets none", x.reach(0, 2), 2);
        e.is("nor reaches any", x.reach(2, 0), 0);
        e.is("60", x.reach(0, 60), 2);
        e.is("61", x.reach(0, 61), Expect.BAD);
        e.is("-1", x.reach(0, -1), Expect.BAD);
        e.is("hammock 4", x.reach(4, 0), Expect.BAD);
        HammockReach y = Expect.read("t0,0;o0,3,1,0;o1,2,1,0;o0,4,1,0;");
        e.is("ARM 0: at one place", y.reach(0, 0), 2);
    }

    private static void meets() {
        HammockReach x = Expect.read(SWUNG);
        e.is("now", x.meet(0, 1), 0);
        e.is("behind 2", x.meet(0, 2), 2);
        e.is("the other way round", x.meet(3, 0), 4);
        e.is("never", x.meet(1, 3), Expect.NONE);
        x.minutes(3);
        e.is("from now on", x.meet(0, 3), 1);
        e.is("alike", x.meet(1, 1), Expect.BAD);
        e.is("hammock 4", x.meet(0, 4), Expect.BAD);
        e.is("hammock -1", x.meet(-1, 0), Expect.BAD);
        x.cord(3, 1);
        e.is("whoever is down", x.meet(0, 3), Expect.NONE);
    }

    private static void endsBehind60Minutes() {
        // In MINUTE 68 these two are at one place, 11, and in none of the 61 before.
        HammockReach x = Expect.read("t40,0;v8,11,1,5;v0,7,1,4;");
        x.minutes(7);
        e.is("meet behind 61", x.meet(0, 1), Expect.NONE);
        x.minutes(1);
        e.is("where one is", x.ahead(0, 60, 0), 11);
        e.is("where the other is", x.ahead(1, 60, 0), 11);
        e.is("meet behind 60", x.meet(0, 1), 60);
        e.is("a gift would be there behind 61", x.soonest(0, 1), Expect.NONE);
        e.is("so it is not given", x.hands(0, 1), Expect.NONE);
        e.is("nobody has it", x.everywhere(0, 60), 1);
        e.is("nor may have it", x.breaks(0, 1, 60, 0, 0), 0);
        x.minutes(1);
        e.is("there behind 60", x.soonest(0, 1), 60);
        e.is("given once", x.hands(0, 1), 1);
        e.is("behind 60", x.everywhere(0, 60), 3);
        e.is("behind 59", x.everywhere(0, 59), 1);
        e.is("may have it", x.breaks(0, 1, 60, 5, 1), 4);
    }

    private static void givesBeforeItIsDown() {
        // The vine dips to the ground from MINUTE 10 on.
        HammockReach x = Expect.read("t9,0;v0,1,9,0;o0,1,1,0;");
        x.minutes(9);
        e.is("soonest", x.soonest(0, 1), 1);
        e.is("hands", x.hands(0, 1), 1);
        e.is("everywhere", x.everywhere(0, 60), 3);
        x.minutes(1);
        e.is("meet", x.meet(0, 1), Expect.NONE);
        e.is("soonest, too late", x.soonest(0, 1), Expect.NONE);
        e.is("hands, too late", x.hands(0, 1), Expect.NONE);
        e.is("everywhere, too late", x.everywhere(0, 60), 1);
    }

    private static void givesSoonest() {
        HammockReach x = Expect.read(CHAIN);
        e.is("a minute each", x.soonest(0, 3), 3);
        e.is("back", x.soonest(3, 1), 2);
        e.is("alike", x.soonest(2, 2), 0);
        e.is("hammock 4", x.soonest(0, 4), Expect.BAD);
        e.is("alike, but none", x.soonest(4, 4), Expect.BAD);
        x.cord(1, 1);
        e.is("none", x.soonest(0, 3), Expect.NONE);
        e.is("whoever is down has what it has", x.soonest(1, 1), 0);
        e.is("but gives none", x.soonest(1, 2), Expect.NONE);
        e.is("nor gets any", x.soonest(2, 1), Expect.NONE);
        e.is("wider", Expect.read(WIDE).soonest(0, 3), 2);
        e.is("swung", Expect.read(SWUNG).soonest(0, 3), 3);
    }

    private static void givesByFewest() {
        e.is("chain", Expect.read(CHAIN).hands(0, 3), 3);
        e.is("wider", Expect.read(WIDE).hands(0, 3), 2);
        HammockReach six = Expect.read(
            "t9,1;o0,1,1,0;o1,2,1,0;o2,3,1,0;o3,4,1,0;o4,5,1,0;o5,6,1,0;");
        e.is("by all", six.hands(0, 5), 5);
        e.is("and soonest", six.soonest(0, 5), 5);
        HammockReach x = Expect.read(SWUNG);
        e.is("by itself, though later", x.hands(0, 3), 1);
        e.is("back", x.hands(3, 1), 2);
        e.is("alike", x.hands(1, 1), 0);
        e.is("hammock 4", x.hands(4, 0), Expect.BAD);
        x.cord(3, 1);
        e.is("none", x.hands(0, 3), Expect.NONE);
        e.is("alike and down", x.hands(3, 3), 0);
    }

    private static void goesEverywhere() {
        HammockReach x = Expect.read(CHAIN);
        int[] due = {2, 7, 15, 15};
        for (int d = 0; d < 4; d++) {
            e.is("everywhere(1, " + d + ")", x.everywhere(1, d), due[d]);
        }
        e.is("60", x.everywhere(0, 60), 15);
        e.is("61", x.everywhere(0, 61), Expect.BAD);
        e.is("-1", x.everywhere(0, -1), Expect.BAD);
        e.is("hammock 4", x.everywhere(4, 0), Expect.BAD);
        x.cord(1, 1);
        e.is("from one that is down", x.everywhere(1, 60), 2);
        e.is("past one that is down", x.everywhere(2, 60), 12);
    }

    private static void stops() {
        HammockReach x = Expect.read(CHAIN);
        e.is("each between", x.stops(0, 3, 60), 6);
        e.is("the one between", x.stops(0, 2, 60), 2);
        e.is("none between", x.stops(0, 1, 60), 0);
        e.is("not as it is", x.stops(0, 3, 2), 0);
        e.is("just in time", x.stops(0, 3, 3), 6);
        e.is("either way", Expect.read(WIDE).stops(0, 3, 60), 0);
        e.is("the first one", Expect.read("t9,1;o1,2,1,0;o0,1,1,0;o2,3,1,0;").stops(1, 2, 60), 1);
        HammockReach y = Expect.read(WIDE);
        y.cord(1, 1);
        e.is("one way is cut", y.stops(0, 3, 60), 4);
        HammockReach z = Expect.read(SWUNG);
        e.is("within 3", z.stops(0, 3, 3), 6);
        e.is("within 4", z.stops(0, 3, 4), 4);
        e.is("within 5", z.stops(0, 3, 5), 0);
        e.is("alike", x.stops(1, 1, 5), Expect.BAD);
        e.is("61", x.stops(0, 1, 61), Expect.BAD);
        e.is("-1", x.stops(0, 1, -1), Expect.BAD);
        e.is("hammock 4", x.stops(0, 4, 5), Expect.BAD);
    }

    private static void slings() {
        slung("t9,0;o0,1,1,0;o5,6,1,0;c7,9,1,5;", 1, 6);
        slung("t9,0;o0,1,1,0;o5,6,1,0;c0,1,1,5;", 1, 6);
        slung("t9,0;o0,1,1,0;o5,6,1,0;o0,1,1,0;", Expect.NONE, Expect.NONE);
        // 12 times A and B is least of what is soonest; it stays, where it is so already.
        slung("t9,1;o0,1,1,0;o2,3,1,0;o7,8,1,0;", 3, 2);
        slung("t9,1;o0,1,1,0;o2,3,1,0;o1,2,1,0;", 14, 2);
        // Between 0 and 3 it would dip to the ground.
        slung("t5,1;o0,1,1,0;o2,3,1,0;c7,8,5,0;", 14, 2);
        // Without it is as soon.
        slung("t9,1;o0,1,1,0;o1,2,1,0;o4,9,1,0;", 57, 1);
        // It meets the one at 7 behind 1, the one at 9 behind 2; from 7 on it is sooner by one.
        slung("t9,0;o3,4,1,0;o4,5,1,0;c2,3,1,2;", 7, 2);
        HammockReach x = Expect.read("t9,1;o0,1,1,0;o2,3,1,0;o7,8,1,0;");
        x.cord(2, 1);
        e.is("it is cut", x.toSling(2, 0, 1, 0), Expect.NONE);
        e.is("alike a, b", x.toSling(2, 0, 0, 0), Expect.BAD);
        e.is("alike c, a", x.toSling(0, 0, 1, 0), Expect.BAD);
        e.is("alike c, b", x.toSling(1, 0, 1, 0), Expect.BAD);
        e.is("what 2", x.toSling(2, 0, 1, 2), Expect.BAD);
        e.is("what -1", x.toSling(2, 0, 1, -1), Expect.BAD);
        e.is("hammock 3", x.toSling(3, 0, 1, 0), Expect.BAD);
    }

    /** For hammock 2, from 0 to 1. */
    private static void slung(String text, int trees, int behind) {
        HammockReach x = Expect.read(text);
        e.is(text + " toSling(2, 0, 1, 0)", x.toSling(2, 0, 1, 0), trees);
        e.is(text + " toSling(2, 0, 1, 1)", x.toSling(2, 0, 1, 1), behind);
    }

    private static void fitsSorts() {
        // Where a cord, a vine, a branch, a root of this would be: 5 7 9, 5 5 7, 5 5 5, 9 9 9.
        HammockReach x = Expect.read("t9,0;c2,3,1,2;");
        x.row(0, 0, 8);
        items(x, 0, new int[] {5, 7, 9, 5, 5, 7, 5, 5});
        e.is("a cord, a silk", x.fits(0, 0, 0, 3, 0), 6);
        e.is("a vine", x.fits(0, 0, 3, 3, 0), 8);
        e.is("a vine, a branch", x.fits(0, 0, 3, 2, 0), 24);
        e.is("each but a root", x.fits(0, 0, 0, 1, 0), 30);
        e.is("a root", x.fits(0, 0, 2, 1, 0), 32);
        e.is("none", x.fits(0, 0, 1, 1, 0), 0);
        x.minutes(2);
        e.is("from now on", x.fits(0, 0, 2, 1, 0), 38);
    }

    private static void fitsSwings() {
        HammockReach x = Expect.read("t9,0;c2,3,1,2;o2,3,1,0;r2,3,1,0;");
        x.row(0, 2, 8);
        items(x, 0, new int[] {5, 7, 5, 3, 5, 7, 9, 11});
        e.is("now", x.fits(0, 0, 0, 1, 1), 63);
        e.is("one up", x.fits(0, 0, 0, 2, 1), 62);
        e.is("and back", x.fits(0, 0, 0, 4, 1), 2);
        e.is("up on and on", x.fits(0, 0, 4, 4, 1), 56);
        e.is("no such", x.fits(0, 0, 1, 2, 1), 0);
        e.is("a root", x.fits(1, 0, 7, 1, 1), 8);
        e.is("a branch", x.fits(2, 0, 0, 1, 1), 63);
    }

    private static void fitsLoads() {
        // The vine of a WEIGHT dips WEIGHT and 1, from minute 10 on WEIGHT and 2: HIGH is 9.
        HammockReach x = Expect.read("t9,5;v2,4,1,0;o3,4,1,0;");
        x.row(0, 0, 16);
        x.set(0, 0, 2);
        x.row(1, 0, 16);
        x.row(2, 0, 16);
        for (int i = 0; i < 16; i++) {
            x.set(1, i, 2);
            x.set(2, i, i < 10 ? 2 : 0);
        }
        e.is("in reach now", x.fits(0, 1, 0, 1, 2), (1 << 9) - 2);
        e.is("in reach for 16", x.fits(0, 1, 0, 16, 2), (1 << 8) - 2);
        e.is("and then no more", x.fits(0, 2, 0, 16, 2), 1 << 8);
        e.is("not in reach", x.fits(0, 2, 10, 1, 2), (1 << 21) - (1 << 9));
        e.is("neither", x.fits(0, 0, 0, 2, 2), 0);
        x.set(0, 0, 1);
        e.is("by who is in reach of a root", x.fits(1, 0, 0, 1, 2), (1 << 21) - 2);
    }

    private static void refusesFits() {
        HammockReach x = Expect.read("t9,5;v2,4,1,0;");
        x.row(0, 0, 16);
        e.is("hammock 1", x.fits(1, 0, 0, 1, 0), Expect.BAD);
        e.is("row 8", x.fits(0, 8, 0, 1, 0), Expect.BAD);
        e.is("row -1", x.fits(0, -1, 0, 1, 0), Expect.BAD);
        e.is("n 0", x.fits(0, 0, 0, 0, 0), Expect.BAD);
        e.is("n 17", x.fits(0, 0, 0, 17, 0), Expect.BAD);
        e.is("what 3", x.fits(0, 0, 0, 1, 3), Expect.BAD);
        e.is("what -1", x.fits(0, 0, 0, 1, -1), Expect.BAD);
        e.is("BAD ahead of NULL", x.fits(0, 1, 0, 17, 0), Expect.BAD);
        e.is("missing", x.fits(0, 1, -1, 1, 0), Expect.NO_ROW);
        e.is("i -1", x.fits(0, 0, -1, 1, 0), Expect.NO_PLACE);
        e.is("beyond the end", x.fits(0, 0, 1, 16, 0), Expect.NO_PLACE);
        e.is("i most", x.fits(0, 0, Integer.MAX_VALUE, 16, 0), Expect.NO_PLACE);
    }

    private static void breaks() {
        HammockReach x = Expect.read(CHAIN);
        fraction(x, 0, 3, 60, 5, 1, 16);
        fraction(x, 0, 3, 60, 1, 6561, 10000);
        fraction(x, 0, 3, 60, 2, 256, 625);
        fraction(x, 0, 3, 60, 0, 1, 1);
        fraction(x, 0, 3, 60, 10, 0, 1);
        fraction(x, 0, 3, 3, 5, 1, 16);
        fraction(x, 0, 3, 2, 5, 0, 1);
        fraction(x, 0, 1, 1, 7, 9, 100);
        fraction(x, 0, 1, 0, 0, 0, 1);
        fraction(x, 2, 2, 0, 10, 1, 1);
        x.cord(3, 1);
        fraction(x, 0, 2, 60, 5, 1, 8);
        fraction(x, 0, 3, 60, 0, 0, 1);
        HammockReach y = Expect.read(WIDE);
        fraction(y, 0, 3, 60, 5, 3, 16);
        fraction(y, 0, 3, 60, 1, 8019, 10000);
        y.cord(1, 1);
        fraction(y, 0, 3, 60, 5, 1, 8);
        y.cord(0, 1);
        fraction(y, 0, 0, 0, 3, 1, 1);
    }

    private static void fraction(HammockReach x, int a, int b, int d, int c, int above, int below) {
        String call = "breaks(" + a + ", " + b + ", " + d + ", " + c + ", ";
        e.is(call + "0)", x.breaks(a, b, d, c, 0), above);
        e.is(call + "1)", x.breaks(a, b, d, c, 1), below);
    }

    private static void refusesBreaks() {
        HammockReach x = Expect.read(CHAIN);
        e.is("hammock 4", x.breaks(4, 0, 0, 0, 0), Expect.BAD);
        e.is("to hammock -1", x.breaks(0, -1, 0, 0, 0), Expect.BAD);
        e.is("d 61", x.breaks(0, 1, 61, 0, 0), Expect.BAD);
        e.is("d -1", x.breaks(0, 1, -1, 0, 0), Expect.BAD);
        e.is("c 11", x.breaks(0, 1, 0, 11, 0), Expect.BAD);
        e.is("c -1", x.breaks(0, 1, 0, -1, 0), Expect.BAD);
        e.is("what 2", x.breaks(0, 1, 0, 0, 2), Expect.BAD);
        e.is("what -1", x.breaks(0, 1, 0, 0, -1), Expect.BAD);
        e.is("alike, but BAD", x.breaks(0, 0, 0, 11, 0), Expect.BAD);
    }

    private static void changesNothing() {
        HammockReach x = Expect.read(SWUNG);
        x.row(0, 0, 16);
        x.minutes(2);
        x.soonest(0, 3);
        x.hands(0, 3);
        x.everywhere(0, 9);
        x.stops(0, 3, 60);
        x.toSling(1, 0, 3, 0);
        x.fits(0, 0, 0, 16, 0);
        x.fits(0, 0, 0, 16, 1);
        x.fits(0, 0, 0, 16, 2);
        x.breaks(0, 3, 60, 5, 0);
        e.is("MINUTE", x.count(2), 2);
        e.is("CUT", x.count(5), 0);
        e.is("ACTS", x.count(6), 2);
        e.is("A", x.hammock(1, 0), 2);
        e.is("B", x.hammock(1, 1), 3);
        e.is("WEIGHT", x.hammock(0, 2), 1);
        e.is("SWING", x.hammock(0, 3), 5);
        e.is("KIND", x.kind(0), 1);
    }

    private static void items(HammockReach x, int row, int[] items) {
        for (int i = 0; i < items.length; i++) {
            x.set(row, i, items[i]);
        }
    }
}
