/** What fits a row (promise 24): each bound that the document names has a test of its own. */
public final class FitsBoundsTest {
    private static final int MOST = Integer.MAX_VALUE, LEAST = Integer.MIN_VALUE;
    private static final int ALL_SORTS = 62, ALL_SWINGS = 63, ALL_WEIGHTS = 2097150;
    private static final Expect e = new Expect();

    public static void main(String[] args) {
        nGoesFrom1To16();
        whatGoesFrom0To2();
        spansEndWithTheRow();
        spansDoNotWrapAround();
        findsTheFirstInTime();
        eachItemCounts();
        itemsOfEachLane();
        fitsNone();
        fitsAll();
        sortsByTheirSwing();
        eachSortAlone();
        eachSwingAlone();
        swingsOfEachSort();
        swingsBehindTheTurn();
        eachWeightAlone();
        loadsOfEachSort();
        loadsOfWhoIsCut();
        loadsWithoutItself();
        fromThisMinuteOn();
        behindMinute999();
        changesNothing();
        e.end();
    }

    /** "n MINUTES (1 to 16)". */
    private static void nGoesFrom1To16() {
        HammockReach x = Expect.read("t9,0;o0,1,1,0;");
        row(x, 0, 2, new int[] {1, 1, 1, 1, 1, 1, 1, 1, 1, 1, 1, 1, 1, 1, 1, 1, 1});
        for (int n = 1; n <= 16; n++) {
            e.is("SORTS of " + n, x.fits(0, 0, 0, n, 0), ALL_SORTS);
            e.is("SWINGS of " + n, x.fits(0, 0, 0, n, 1), 1);
            e.is("LOADS of " + n, x.fits(0, 0, 0, n, 2), 0);
        }
        for (int n : new int[] {0, -1, 17, LEAST, MOST}) {
            for (int what = 0; what < 3; what++) {
                e.is("fits(0, 0, 0, " + n + ", " + what + ")", x.fits(0, 0, 0, n, what), Expect.BAD);
            }
        }
    }

    /** "SORTS (what = 0), SWINGS (1), LOADS (2)". */
    private static void whatGoesFrom0To2() {
        HammockReach x = Expect.read("t9,0;c0,1,1,1;");
        row(x, 0, 0, new int[] {1, 3, 0});
        e.is("SORTS", x.fits(0, 0, 0, 2, 0), 6);
        e.is("SWINGS", x.fits(0, 0, 0, 2, 1), 62);
        e.is("LOADS", x.fits(0, 0, 2, 1, 2), ALL_WEIGHTS);
        for (int what : new int[] {3, -1, LEAST, MOST}) {
            e.is("fits(0, 0, 0, 1, " + what + ")", x.fits(0, 0, 0, 1, what), Expect.BAD);
        }
    }

    /** "n ITEMS of a ROW from i on"; PLACE. */
    private static void spansEndWithTheRow() {
        HammockReach x = Expect.read("t9,0;o0,1,1,0;");
        x.row(0, 0, 16);
        e.is("all", x.fits(0, 0, 0, 16, 2), ALL_WEIGHTS);
        e.is("one beyond", x.fits(0, 0, 1, 16, 2), Expect.NO_PLACE);
        e.is("15 from 1 on", x.fits(0, 0, 1, 15, 2), ALL_WEIGHTS);
        e.is("the last", x.fits(0, 0, 15, 1, 2), ALL_WEIGHTS);
        e.is("behind the last", x.fits(0, 0, 16, 1, 2), Expect.NO_PLACE);
        e.is("the last and one more", x.fits(0, 0, 15, 2, 2), Expect.NO_PLACE);
        e.is("ahead of the first", x.fits(0, 0, -1, 1, 2), Expect.NO_PLACE);
        x.row(0, 0, 15);
        e.is("15 of 16", x.fits(0, 0, 0, 16, 2), Expect.NO_PLACE);
        e.is("15 of 15", x.fits(0, 0, 0, 15, 2), ALL_WEIGHTS);
        x.row(0, 0, 40);
        e.is("to the 40th", x.fits(0, 0, 24, 16, 2), ALL_WEIGHTS);
        e.is("to the 41st", x.fits(0, 0, 25, 16, 2), Expect.NO_PLACE);
        x.row(0, 0, 1);
        e.is("one of one", x.fits(0, 0, 0, 1, 2), ALL_WEIGHTS);
        e.is("two of one", x.fits(0, 0, 0, 2, 2), Expect.NO_PLACE);
        x.row(0, 0, 0);
        e.is("one of none", x.fits(0, 0, 0, 1, 2), Expect.NO_PLACE);
    }

    private static void spansDoNotWrapAround() {
        HammockReach x = Expect.read("t9,0;o0,1,1,0;");
        x.row(0, 0, 40);
        for (int i : new int[] {MOST, MOST - 15, LEAST, LEAST + 1, -16, 40, 41}) {
            e.is("fits(0, 0, " + i + ", 16, 0)", x.fits(0, 0, i, 16, 0), Expect.NO_PLACE);
        }
        e.is("status", x.status(), 2);
    }

    /** "BAD: HAMMOCK, ROW, n, what; NULL; PLACE". */
    private static void findsTheFirstInTime() {
        HammockReach x = Expect.read("t9,0;o0,1,1,0;");
        x.row(0, 0, 2);
        e.is("HAMMOCK ahead of NULL", x.fits(1, 1, 0, 1, 0), Expect.BAD);
        e.is("n ahead of NULL", x.fits(0, 1, 0, 0, 0), Expect.BAD);
        e.is("what ahead of NULL", x.fits(0, 1, 0, 1, 3), Expect.BAD);
        e.is("n ahead of PLACE", x.fits(0, 0, 0, 17, 0), Expect.BAD);
        e.is("what ahead of PLACE", x.fits(0, 0, 2, 1, -1), Expect.BAD);
        e.is("NULL ahead of PLACE", x.fits(0, 1, 2, 1, 0), Expect.NO_ROW);
        e.is("status", x.status(), 1);
        e.is("PLACE", x.fits(0, 0, 2, 1, 0), Expect.NO_PLACE);
        e.is("status", x.status(), 2);
        e.is("BAD leaves it", x.fits(0, 0, 2, 17, 0), Expect.BAD);
        e.is("status", x.status(), 2);
        e.is("none", x.fits(0, 0, 0, 1, 0), 0);
        e.is("status", x.status(), 0);
        HammockReach none = new HammockReach();
        none.row(0, 0, 2);
        e.is("no forest", none.fits(0, 0, 0, 1, 0), Expect.BAD);
    }

    /** Any one of the items that is another makes it not so; none behind them does. */
    private static void eachItemCounts() {
        HammockReach x = Expect.read("t9,5;o0,1,1,0;o0,1,1,0;");
        int[] so = new int[17];
        java.util.Arrays.fill(so, 1);
        row(x, 0, 2, so);
        java.util.Arrays.fill(so, 2);
        row(x, 1, 2, so);
        for (int k = 0; k < 17; k++) {
            x.set(0, k, 2);
            x.set(1, k, 3);
            e.is("SORTS, but " + k, x.fits(0, 0, 0, 16, 0), k < 16 ? 0 : ALL_SORTS);
            e.is("SWINGS, but " + k, x.fits(0, 0, 0, 16, 1), k < 16 ? 0 : 1);
            e.is("LOADS, but " + k, x.fits(0, 1, 0, 16, 2), k < 16 ? 0 : ALL_WEIGHTS);
            x.set(0, k, 1);
            x.set(1, k, 2);
        }
    }

    private static void itemsOfEachLane() {
        HammockReach x = Expect.read("t9,0;c0,1,1,5;");
        x.minutes(14);
        for (int lane = 0; lane < 3; lane++) {
            row(x, lane, lane, new int[] {-7, -9, -7});
            e.is("below 0", x.fits(0, lane, 0, 3, 1), 32);
            row(x, lane, lane, new int[] {256 - 7, 256 - 9, 256 - 7});
            e.is("a byte wraps around", x.fits(0, lane, 0, 3, 1), lane == 0 ? 32 : 0);
            row(x, lane, lane, new int[] {65536 - 7, 65536 - 9, 65536 - 7});
            e.is("a short, too", x.fits(0, lane, 0, 3, 1), lane < 2 ? 32 : 0);
        }
    }

    private static void fitsNone() {
        HammockReach x = Expect.read("t9,0;c0,1,1,5;");
        row(x, 0, 2, new int[] {LEAST, MOST, 2});
        for (int i = 0; i < 3; i++) {
            for (int what = 0; what < 3; what++) {
                e.is("none", x.fits(0, 0, i, 1, what), 0);
                e.is("it is no FINDING", x.status(), 0);
            }
        }
    }

    /** "KINDS (bits 1 to 5)"; "SWING (0 to 5, bits)"; "WEIGHT (1 to 20, bits)". */
    private static void fitsAll() {
        HammockReach x = Expect.read("t40,0;c0,1,1,0;");
        row(x, 0, 0, new int[] {1, 0});
        e.is("SORTS 1 to 5", x.fits(0, 0, 0, 1, 0), 2 + 4 + 8 + 16 + 32);
        e.is("SWINGS 0 to 5", x.fits(0, 0, 0, 1, 1), 1 + 2 + 4 + 8 + 16 + 32);
        e.is("LOADS 1 to 20", x.fits(0, 0, 1, 1, 2), (1 << 21) - 2);
    }

    /** "KINDS of it by which it is so": by the SWING that it has. */
    private static void sortsByTheirSwing() {
        int[] places = {1, 1, 1};
        int[] due = {ALL_SORTS, 16, 16};
        for (int swing = 0; swing < 3; swing++) {
            HammockReach x = Expect.read("t40,0;s0,1,1," + swing + ";");
            row(x, 0, 0, places);
            e.is("SWING " + swing, x.fits(0, 0, 0, 3, 0), due[swing]);
            e.is("one alone", x.fits(0, 0, 0, 1, 0), swing == 0 ? ALL_SORTS : 30);
            e.is("two", x.fits(0, 0, 0, 2, 0), swing == 0 ? ALL_SORTS : 24);
        }
    }

    private static void eachSortAlone() {
        for (char sort : "csvro".toCharArray()) {
            HammockReach x = Expect.read("t40,0;" + sort + "0,1,1,3;");
            row(x, 0, 0, new int[] {1, 3, 5, 1, 1, 3, 1, 1, 1, 7, 7, 7});
            e.is("a cord or a silk", x.fits(0, 0, 0, 3, 0), 6);
            e.is("a vine", x.fits(0, 0, 3, 3, 0), 8);
            e.is("a branch", x.fits(0, 0, 6, 3, 0), 16);
            e.is("a root", x.fits(0, 0, 9, 3, 0), 32);
            e.is("it is told as before", x.kind(0), 1 + "csvro".indexOf(sort));
        }
    }

    private static void eachSwingAlone() {
        // A root of each SWING is at 1 and twice that.
        HammockReach x = Expect.read("t40,0;o0,1,1,0;");
        row(x, 0, 0, new int[] {1, 3, 5, 7, 9, 11, 13, -1, 2});
        for (int i = 0; i < 9; i++) {
            e.is("item " + i, x.fits(0, 0, i, 1, 1), i < 6 ? 1 << i : 0);
        }
    }

    /** "SWING by which it is so": of the sort that it is. */
    private static void swingsOfEachSort() {
        int[] due = {4, 4, 0, 0, 0};
        int[] later = {0, 0, 60, 0, 0};
        for (int k = 0; k < 5; k++) {
            HammockReach x = Expect.read("t40,0;" + "csvro".charAt(k) + "0,1,1,0;");
            row(x, 0, 0, new int[] {1, 3, 5, 3, 1, 1, 3, 3, 5});
            e.is("1 3 5 3", x.fits(0, 0, 0, 4, 1), due[k]);
            e.is("1 1 3 3 5", x.fits(0, 0, 4, 5, 1), later[k]);
            e.is("1", x.fits(0, 0, 0, 1, 1), k == 4 ? 1 : ALL_SWINGS);
        }
    }

    private static void swingsBehindTheTurn() {
        HammockReach x = Expect.read("t40,0;c0,1,1,0;");
        row(x, 0, 0, new int[] {1, 3, 5, 7, 9, 11, 9, 7, 5, 3, 1, -1, -3, -5, -7, -9});
        int[] due = {63, 62, 60, 56, 48, 32, 32};
        for (int n = 1; n <= 16; n++) {
            e.is("of " + n, x.fits(0, 0, 0, n, 1), due[Math.min(n, 7) - 1]);
        }
        row(x, 1, 0, new int[] {1, 3, 1, -1, 1});
        e.is("SWING 1", x.fits(0, 1, 0, 5, 1), 2);
        row(x, 1, 0, new int[] {1, 1});
        e.is("SWING 0", x.fits(0, 1, 0, 2, 1), 1);
    }

    private static void eachWeightAlone() {
        // Of a vine it is told when it dips to the ground: of WEIGHT w in MINUTE 10 times (21 less w).
        HammockReach x = Expect.read("t20,5;v0,1,1,0;o0,1,1,0;");
        row(x, 0, 0, new int[] {2, 0});
        for (int t = 1; t <= 190; t++) {
            x.minutes(1);
            if (t % 10 == 9) {
                e.is("weight " + (20 - t / 10) + " in " + t, x.fits(0, 0, 0, 2, 2), 1 << 20 - t / 10);
            }
        }
        e.is("of MINUTE 190 on", x.fits(0, 0, 0, 1, 2), 2);
        e.is("the others are DOWN", x.fits(0, 0, 1, 1, 2), ALL_WEIGHTS - 2);
    }

    /** "LOADS: WEIGHT of it by which it is so": what dips by its WEIGHT is told by it alone. */
    private static void loadsOfEachSort() {
        int[] due = {(1 << 6) - 2, (1 << 13) - 2, (1 << 6) - 2, ALL_WEIGHTS, ALL_WEIGHTS};
        for (int k = 0; k < 5; k++) {
            HammockReach x = Expect.read("t6,5;" + "csvro".charAt(k) + "0,3,20,0;o0,3,1,0;");
            row(x, 0, 0, new int[] {2, 0});
            e.is("up", x.fits(0, 0, 0, 1, 2), due[k]);
            e.is("down", x.fits(0, 0, 1, 1, 2), ALL_WEIGHTS & ~due[k]);
            e.is("its WEIGHT stays", x.hammock(0, 2), 20);
        }
    }

    private static void loadsOfWhoIsCut() {
        HammockReach x = Expect.read("t40,5;c0,1,1,0;o0,1,1,0;");
        row(x, 0, 0, new int[] {2, 0});
        x.cord(0, 1);
        e.is("it reaches none", x.fits(0, 0, 1, 1, 2), ALL_WEIGHTS);
        e.is("nor the other", x.fits(0, 0, 0, 1, 2), 0);
        x.cord(0, 0);
        x.cord(1, 1);
        e.is("whom none reaches", x.fits(0, 0, 1, 1, 2), ALL_WEIGHTS);
        x.cord(1, 0);
        e.is("tied again", x.fits(0, 0, 0, 1, 2), ALL_WEIGHTS);
    }

    /** "who is IN REACH of one (bits)". */
    private static void loadsWithoutItself() {
        HammockReach x = Expect.read("t40,5;o0,1,1,0;o0,1,1,0;o0,1,1,0;o0,1,1,0;o0,1,1,0;o0,1,1,0;");
        row(x, 0, 0, new int[] {62, 61, 59, 55, 47, 31, 63});
        for (int h = 0; h < 6; h++) {
            for (int i = 0; i < 7; i++) {
                e.is("of " + h, x.fits(h, 0, i, 1, 2), h == i ? ALL_WEIGHTS : 0);
            }
        }
    }

    /** "in each of n MINUTES, this one first". */
    private static void fromThisMinuteOn() {
        HammockReach x = Expect.read("t9,0;c0,1,1,3;o2,5,1,0;");
        row(x, 0, 0, new int[] {1, 3, 5, 7, 5});
        row(x, 1, 0, new int[] {0, 0, 0, 2, 0});
        for (int t = 0; t < 5; t++) {
            e.is("SWINGS in " + t, x.fits(0, 0, t, 5 - t, 1), 8);
            e.is("LOADS in " + t, x.fits(0, 1, t, 5 - t, 2), t < 4 ? 1022 : ALL_WEIGHTS);
            e.is("SORTS in " + t, x.fits(0, 0, t, 5 - t, 0), t == 3 ? 6 : t == 4 ? 14 : 6);
            x.minutes(1);
        }
    }

    private static void behindMinute999() {
        HammockReach x = Expect.read("t9,0;c0,1,1,5;");
        for (int i = 0; i < 41; i++) {
            x.minutes(24);
        }
        x.minutes(15);
        e.is("MINUTE", x.count(2), 999);
        // 999 is 19 of 20.
        row(x, 0, 0, new int[] {-1, 1, 3, 5, 7, 9, 11, 9, 7, 5, 3, 1, -1, -3, -5, -7});
        e.is("SWINGS to 1014", x.fits(0, 0, 0, 16, 1), 32);
        e.is("SORTS to 1014", x.fits(0, 0, 0, 16, 0), 6);
    }

    private static void changesNothing() {
        HammockReach x = Expect.read("t9,2;c0,1,7,3;o2,5,1,1;");
        x.row(0, 0, 16);
        for (int what = 0; what < 3; what++) {
            x.fits(0, 0, 0, 16, what);
            x.fits(1, 0, 0, 16, what);
            int[][] due = {{0, 1, 7, 3, 0, 7, 1}, {2, 5, 1, 1, 0, 0, 9}};
            for (int h = 0; h < 2; h++) {
                for (int k = 0; k < 7; k++) {
                    e.is("hammock(" + h + ", " + k + ")", x.hammock(h, k), due[h][k]);
                }
            }
            e.is("kinds", 10 * x.kind(0) + x.kind(1), 15);
            e.is("ACTS", x.count(6), 0);
        }
        e.is("the ROW, too", x.drop(0), 16);
    }

    private static void row(HammockReach x, int row, int lane, int[] items) {
        x.row(row, lane, items.length);
        for (int i = 0; i < items.length; i++) {
            x.set(row, i, items[i]);
        }
    }
}
