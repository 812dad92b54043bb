/** Rows (promises 2 to 5, 33): each bound that the document names has a test of its own. */
public final class RowBoundsTest {
    private static final int MOST = Integer.MAX_VALUE, LEAST = Integer.MIN_VALUE;
    private static final Expect e = new Expect();

    public static void main(String[] args) {
        rowsAreMissingAtFirst();
        rowsGoFrom0To7();
        lanesGoFrom0To2();
        itemsAre0To40();
        fewerThanNoneIsASize();
        itemsAre0AtFirst();
        itemsAre0AnewInPlaceOfWhatIsThere();
        aLaneComesInPlaceOfAnother();
        bytesWrapAround();
        shortsWrapAround();
        intsStay();
        placesEndWithTheRow();
        aRowOfNoneHasNoPlace();
        copiesAWholeRowOf40();
        copiesNone();
        copiesEndWithBothRows();
        copiesBelow0();
        copiesDoNotWrapAround();
        copiesOverlap();
        copiesOfTwoLanes();
        copiesFindTheFirstInTime();
        dropsOnce();
        findsBehindADrop();
        statusOfEachCallWithARow();
        statusOfWhatIsNeither();
        e.end();
    }

    /** "ROWS 0 .. 7 are missing (at first)". */
    private static void rowsAreMissingAtFirst() {
        HammockReach x = Expect.read("t9,1;o0,1,1,0;");
        e.is("none is there", x.count(0), 0);
        for (int row = 0; row < 8; row++) {
            e.is("set", x.set(row, 0, 0), Expect.NO_ROW);
            e.is("drop", x.drop(row), Expect.NO_ROW);
            e.is("copy", x.copy(row, 0, row, 0, 0), Expect.NO_ROW);
            e.is("fits", x.fits(0, row, 0, 1, 0), Expect.NO_ROW);
        }
        for (int row = 0; row < 8; row++) {
            e.is("row", x.row(row, 0, 1), 1);
            e.is("one more is there", x.count(0), row + 1);
        }
        e.is("in place of one", x.row(3, 1, 2), 2);
        e.is("none more is there", x.count(0), 8);
    }

    /** "ROWS 0 .. 7"; "BAD: ROW". */
    private static void rowsGoFrom0To7() {
        HammockReach x = Expect.read("t9,1;o0,1,1,0;");
        x.row(0, 2, 1);
        x.row(7, 2, 1);
        e.is("set 0", x.set(0, 0, 1), 1);
        e.is("set 7", x.set(7, 0, 2), 2);
        e.is("copy 0 to 7", x.copy(0, 0, 7, 0, 1), 1);
        e.is("copy 7 to 0", x.copy(7, 0, 0, 0, 1), 1);
        e.is("fits 7", x.fits(0, 7, 0, 1, 0), 62);
        for (int row : new int[] {-1, 8, LEAST, MOST}) {
            e.is("row", x.row(row, 0, 1), Expect.BAD);
            e.is("set", x.set(row, 0, 1), Expect.BAD);
            e.is("copy from", x.copy(row, 0, 0, 0, 1), Expect.BAD);
            e.is("copy to", x.copy(0, 0, row, 0, 1), Expect.BAD);
            e.is("drop", x.drop(row), Expect.BAD);
            e.is("fits", x.fits(0, row, 0, 1, 0), Expect.BAD);
        }
        e.is("drop 0", x.drop(0), 1);
        e.is("drop 7", x.drop(7), 1);
    }

    /** "a LANE (0 bytes, 1 shorts, 2 ints)". */
    private static void lanesGoFrom0To2() {
        HammockReach x = new HammockReach();
        for (int lane = 0; lane < 3; lane++) {
            e.is("row", x.row(lane, lane, 1), 1);
        }
        e.is("a byte", x.set(0, 0, 65793), 1);
        e.is("a short", x.set(1, 0, 65793), 257);
        e.is("an int", x.set(2, 0, 65793), 65793);
        for (int lane : new int[] {-1, 3, LEAST, MOST}) {
            e.is("lane", x.row(0, lane, 1), Expect.BAD);
        }
    }

    /** "0 to 40 ITEMS"; "BAD: n above 40". */
    private static void itemsAre0To40() {
        HammockReach x = new HammockReach();
        e.is("none", x.row(0, 1, 0), 0);
        e.is("one", x.row(1, 1, 1), 1);
        e.is("40", x.row(2, 1, 40), 40);
        e.is("41", x.row(3, 1, 41), Expect.BAD);
        e.is("most", x.row(3, 1, MOST), Expect.BAD);
        e.is("41 makes none", x.count(0), 3);
        e.is("the 40th", x.set(2, 39, 9), 9);
        e.is("the 41st", x.set(2, 40, 9), Expect.NO_PLACE);
    }

    /** "4 SIZE (fewer than none)". */
    private static void fewerThanNoneIsASize() {
        HammockReach x = new HammockReach();
        e.is("-1", x.row(0, 0, -1), Expect.NO_SIZE);
        e.is("status", x.status(), 4);
        e.is("least", x.row(0, 0, LEAST), Expect.NO_SIZE);
        e.is("none is made", x.count(0), 0);
        x.row(0, 1, 5);
        e.is("in place of one", x.row(0, 0, -1), Expect.NO_SIZE);
        e.is("it keeps its LANE", x.set(0, 4, 300), 300);
        e.is("it keeps its ITEMS", x.drop(0), 5);
        e.is("BAD ROW first", x.row(8, 0, -1), Expect.BAD);
        e.is("BAD LANE first", x.row(0, 3, -1), Expect.BAD);
    }

    /** "ITEMS, 0 at first". */
    private static void itemsAre0AtFirst() {
        // Nobody is in reach of a hammock alone, so that each WEIGHT fits 0 and no other number.
        HammockReach x = Expect.read("t9,1;o0,1,1,0;");
        for (int lane = 0; lane < 3; lane++) {
            x.row(0, lane, 40);
            e.is("0 to 15", x.fits(0, 0, 0, 16, 2), 2097150);
            e.is("16 to 31", x.fits(0, 0, 16, 16, 2), 2097150);
            e.is("24 to 39", x.fits(0, 0, 24, 16, 2), 2097150);
        }
        x.set(0, 39, 1);
        e.is("39 is 1", x.fits(0, 0, 24, 16, 2), 0);
    }

    /** "A ROW of a LANE with n ITEMS, in place of what is there". */
    private static void itemsAre0AnewInPlaceOfWhatIsThere() {
        HammockReach x = Expect.read("t9,1;o0,1,1,0;");
        x.row(0, 0, 40);
        for (int i = 0; i < 40; i++) {
            x.set(0, i, 1);
        }
        e.is("1", x.fits(0, 0, 0, 1, 2), 0);
        e.is("a short one", x.row(0, 0, 2), 2);
        e.is("a long one behind it", x.row(0, 0, 40), 40);
        e.is("0 to 15", x.fits(0, 0, 0, 16, 2), 2097150);
        e.is("16 to 31", x.fits(0, 0, 16, 16, 2), 2097150);
        e.is("24 to 39", x.fits(0, 0, 24, 16, 2), 2097150);
        x.set(0, 5, 1);
        x.drop(0);
        x.row(0, 0, 40);
        e.is("0 anew behind a drop", x.fits(0, 0, 0, 16, 2), 2097150);
    }

    private static void aLaneComesInPlaceOfAnother() {
        HammockReach x = new HammockReach();
        x.row(0, 0, 3);
        x.row(1, 2, 3);
        e.is("a byte", x.set(0, 2, 300), 44);
        e.is("ints and fewer", x.row(0, 2, 2), 2);
        e.is("an int", x.set(0, 1, 300), 300);
        e.is("no third", x.set(0, 2, 1), Expect.NO_PLACE);
        e.is("of one LANE now", x.copy(0, 0, 1, 0, 2), 2);
    }

    /** "its lowest bits, as many as the LANE has". */
    private static void bytesWrapAround() {
        HammockReach x = new HammockReach();
        x.row(0, 0, 1);
        wraps(x, new int[][] {{127, 127}, {128, -128}, {255, -1}, {256, 0}, {257, 1}, {-1, -1}, {-128, -128},
            {-129, 127}, {-256, 0}, {MOST, -1}, {LEAST, 0}, {LEAST + 128, -128}});
    }

    private static void shortsWrapAround() {
        HammockReach x = new HammockReach();
        x.row(0, 1, 1);
        wraps(x, new int[][] {{128, 128}, {32767, 32767}, {32768, -32768}, {65535, -1}, {65536, 0}, {-32768, -32768},
            {-32769, 32767}, {MOST, -1}, {LEAST, 0}});
    }

    private static void intsStay() {
        HammockReach x = new HammockReach();
        x.row(0, 2, 1);
        wraps(x, new int[][] {{128, 128}, {32768, 32768}, {65536, 65536}, {-32769, -32769}, {MOST, MOST}, {LEAST, LEAST}});
    }

    private static void wraps(HammockReach x, int[][] pairs) {
        for (int[] pair : pairs) {
            e.is("set(0, 0, " + pair[0] + ")", x.set(0, 0, pair[0]), pair[1]);
        }
    }

    /** "2 PLACE (no such place of a ROW)". */
    private static void placesEndWithTheRow() {
        HammockReach x = new HammockReach();
        x.row(0, 2, 3);
        e.is("0", x.set(0, 0, 5), 5);
        e.is("2", x.set(0, 2, 6), 6);
        for (int i : new int[] {3, 39, 40, -1, LEAST, MOST}) {
            e.is("set(0, " + i + ", 0)", x.set(0, i, 0), Expect.NO_PLACE);
        }
    }

    private static void aRowOfNoneHasNoPlace() {
        HammockReach x = Expect.read("t9,1;o0,1,1,0;");
        e.is("row", x.row(0, 0, 0), 0);
        e.is("it is there", x.count(0), 1);
        e.is("set", x.set(0, 0, 0), Expect.NO_PLACE);
        e.is("fits", x.fits(0, 0, 0, 1, 0), Expect.NO_PLACE);
        e.is("copy one", x.copy(0, 0, 0, 0, 1), Expect.NO_PLACE);
        e.is("copy none", x.copy(0, 0, 0, 0, 0), 0);
        e.is("drop", x.drop(0), 0);
        e.is("drop again", x.drop(0), Expect.NO_ROW);
    }

    private static void copiesAWholeRowOf40() {
        HammockReach x = Expect.read("t9,1;o0,1,1,0;");
        x.row(0, 1, 40);
        x.row(1, 1, 40);
        for (int i = 0; i < 40; i++) {
            x.set(0, i, 1);
        }
        e.is("40", x.copy(0, 0, 1, 0, 40), 40);
        e.is("0 to 15", x.fits(0, 1, 0, 16, 0), 62);
        e.is("16 to 31", x.fits(0, 1, 16, 16, 0), 62);
        e.is("24 to 39", x.fits(0, 1, 24, 16, 0), 62);
        e.is("41", x.copy(0, 0, 1, 0, 41), Expect.NO_PLACE);
        e.is("most", x.copy(0, 0, 1, 0, MOST), Expect.NO_PLACE);
        e.is("the last one alone", x.copy(0, 39, 1, 39, 1), 1);
    }

    /** None from, and to, the end on is no place beyond it. */
    private static void copiesNone() {
        HammockReach x = new HammockReach();
        x.row(0, 0, 3);
        x.row(1, 0, 5);
        e.is("at the firsts", x.copy(0, 0, 1, 0, 0), 0);
        e.is("at the ends", x.copy(0, 3, 1, 5, 0), 0);
        e.is("beyond the end of a", x.copy(0, 4, 1, 0, 0), Expect.NO_PLACE);
        e.is("beyond the end of b", x.copy(0, 0, 1, 6, 0), Expect.NO_PLACE);
        e.is("ahead of a", x.copy(0, -1, 1, 0, 0), Expect.NO_PLACE);
        e.is("ahead of b", x.copy(0, 0, 1, -1, 0), Expect.NO_PLACE);
    }

    /** "PLACE (i, j, n below 0, or beyond an end)". */
    private static void copiesEndWithBothRows() {
        HammockReach x = new HammockReach();
        x.row(0, 0, 3);
        x.row(1, 0, 5);
        e.is("to the end of a", x.copy(0, 1, 1, 0, 2), 2);
        e.is("beyond the end of a", x.copy(0, 1, 1, 0, 3), Expect.NO_PLACE);
        e.is("to the end of b", x.copy(0, 0, 1, 2, 3), 3);
        e.is("beyond the end of b", x.copy(0, 0, 1, 3, 3), Expect.NO_PLACE);
        e.is("all of a", x.copy(0, 0, 1, 0, 3), 3);
        e.is("more than a has", x.copy(0, 0, 1, 0, 4), Expect.NO_PLACE);
        e.is("more than it takes", x.copy(1, 0, 0, 0, 4), Expect.NO_PLACE);
    }

    private static void copiesBelow0() {
        HammockReach x = new HammockReach();
        x.row(0, 0, 3);
        for (int below : new int[] {-1, -40, LEAST}) {
            e.is("i", x.copy(0, below, 0, 0, 1), Expect.NO_PLACE);
            e.is("j", x.copy(0, 0, 0, below, 1), Expect.NO_PLACE);
            e.is("n", x.copy(0, 0, 0, 0, below), Expect.NO_PLACE);
            e.is("n at the ends", x.copy(0, 3, 0, 3, below), Expect.NO_PLACE);
        }
    }

    /** Places and numbers so large that their sum is not. */
    private static void copiesDoNotWrapAround() {
        HammockReach x = new HammockReach();
        x.row(0, 0, 40);
        e.is("i and n", x.copy(0, MOST, 0, 0, 2), Expect.NO_PLACE);
        e.is("j and n", x.copy(0, 0, 0, MOST, 2), Expect.NO_PLACE);
        e.is("n and i", x.copy(0, 2, 0, 2, MOST), Expect.NO_PLACE);
        e.is("all", x.copy(0, MOST, 0, MOST, MOST), Expect.NO_PLACE);
        e.is("least", x.copy(0, LEAST, 0, LEAST, LEAST), Expect.NO_PLACE);
        e.is("least and most", x.copy(0, LEAST, 0, 0, MOST), Expect.NO_PLACE);
    }

    /** "n ITEMS of a from i on come to b from j on, as they were ahead". */
    private static void copiesOverlap() {
        // A root of SWING s is at 1 + 2 s, so that each ITEM can be told by SWINGS.
        HammockReach x = Expect.read("t9,1;o0,1,1,0;");
        x.row(0, 0, 6);
        fill(x, new int[] {1, 3, 5, 7, 9, 11});
        e.is("upwards", x.copy(0, 0, 0, 1, 5), 5);
        items(x, new int[] {1, 1, 3, 5, 7, 9});
        fill(x, new int[] {1, 3, 5, 7, 9, 11});
        e.is("downwards", x.copy(0, 1, 0, 0, 5), 5);
        items(x, new int[] {3, 5, 7, 9, 11, 11});
        e.is("onto itself", x.copy(0, 0, 0, 0, 6), 6);
        items(x, new int[] {3, 5, 7, 9, 11, 11});
        e.is("none", x.copy(0, 0, 0, 3, 0), 0);
        items(x, new int[] {3, 5, 7, 9, 11, 11});
    }

    private static void fill(HammockReach x, int[] items) {
        for (int i = 0; i < items.length; i++) {
            x.set(0, i, items[i]);
        }
    }

    private static void items(HammockReach x, int[] due) {
        for (int i = 0; i < due.length; i++) {
            e.is("item " + i, x.fits(0, 0, i, 1, 1), 1 << due[i] / 2);
        }
    }

    /** "5 STORE (ROWS of two LANES)". */
    private static void copiesOfTwoLanes() {
        HammockReach x = new HammockReach();
        for (int lane = 0; lane < 3; lane++) {
            x.row(lane, lane, 2);
            x.row(lane + 3, lane, 2);
        }
        for (int a = 0; a < 3; a++) {
            for (int b = 0; b < 3; b++) {
                e.is("copy of " + a + " to " + b, x.copy(a, 0, b + 3, 0, 1), a == b ? 1 : Expect.NO_STORE);
                e.is("of none, too", x.copy(a, 0, b + 3, 0, 0), a == b ? 0 : Expect.NO_STORE);
            }
        }
    }

    /** "FINDINGS, of several the first in time"; "BAD: ROWS; NULL; STORE; PLACE". */
    private static void copiesFindTheFirstInTime() {
        HammockReach x = new HammockReach();
        x.row(0, 0, 2);
        x.row(1, 1, 2);
        e.is("BAD ahead of NULL", x.copy(2, 0, 8, 0, 1), Expect.BAD);
        e.is("BAD ahead of NULL, turned", x.copy(-1, 0, 2, 0, 1), Expect.BAD);
        e.is("BAD ahead of PLACE", x.copy(0, -1, 8, 0, 1), Expect.BAD);
        e.is("NULL ahead of PLACE", x.copy(2, -1, 0, 0, 1), Expect.NO_ROW);
        e.is("NULL of b ahead of PLACE of a", x.copy(0, -1, 2, 0, 1), Expect.NO_ROW);
        e.is("NULL of both", x.copy(2, 0, 3, 0, -1), Expect.NO_ROW);
        e.is("STORE ahead of PLACE", x.copy(0, -1, 1, 0, 1), Expect.NO_STORE);
        e.is("STORE ahead of PLACE of n", x.copy(0, 0, 1, 0, -1), Expect.NO_STORE);
        e.is("NULL ahead of PLACE by set", x.set(2, -1, 0), Expect.NO_ROW);
        e.is("BAD ahead of NULL by set", x.set(8, -1, 0), Expect.BAD);
    }

    private static void dropsOnce() {
        HammockReach x = new HammockReach();
        x.row(0, 0, 40);
        x.row(1, 0, 1);
        e.is("40", x.drop(0), 40);
        e.is("one is there", x.count(0), 1);
        e.is("again", x.drop(0), Expect.NO_ROW);
        e.is("one", x.drop(1), 1);
        e.is("none is there", x.count(0), 0);
    }

    /** "A ROW is missing from now on". */
    private static void findsBehindADrop() {
        HammockReach x = Expect.read("t9,1;o0,1,1,0;");
        x.row(0, 0, 2);
        x.row(1, 0, 2);
        x.drop(0);
        e.is("set", x.set(0, 0, 0), Expect.NO_ROW);
        e.is("copy from", x.copy(0, 0, 1, 0, 1), Expect.NO_ROW);
        e.is("copy to", x.copy(1, 0, 0, 0, 1), Expect.NO_ROW);
        e.is("fits", x.fits(0, 0, 0, 1, 0), Expect.NO_ROW);
        e.is("there again", x.row(0, 2, 1), 1);
        e.is("set again", x.set(0, 0, 1000), 1000);
    }

    /** "Of the latest call with a ROW, or as(): the number of its FINDING; 0: it had none". */
    private static void statusOfEachCallWithARow() {
        HammockReach x = Expect.read("t9,1;o0,1,1,0;");
        e.is("there was none", x.status(), 0);
        x.row(1, 1, 1);
        found(x, x.row(0, 0, -1), 4);
        found(x, x.row(0, 0, 2), 0);
        found(x, x.set(2, 0, 0), 1);
        found(x, x.set(0, 0, 0), 0);
        found(x, x.set(0, 2, 0), 2);
        found(x, x.copy(0, 0, 0, 1, 1), 0);
        found(x, x.copy(0, 0, 2, 0, 1), 1);
        found(x, x.copy(0, 0, 0, 0, 0), 0);
        found(x, x.copy(0, 0, 1, 0, 1), 5);
        found(x, x.fits(0, 0, 0, 1, 0), 0);
        found(x, x.fits(0, 2, 0, 1, 0), 1);
        found(x, x.as(0, 5), 0);
        found(x, x.fits(0, 0, 1, 2, 0), 2);
        found(x, x.drop(0), 0);
        found(x, x.drop(0), 1);
        found(x, x.as(0, 0), 0);
        found(x, x.as(0, 1), 3);
        found(x, x.row(0, 0, 0), 0);
    }

    private static void found(HammockReach x, int answer, int number) {
        e.is("answer " + answer + " by " + number, answer == -1000010 - number ? 1 : 0, number == 0 ? 0 : 1);
        e.is("status of " + answer, x.status(), number);
        e.is("status told twice", x.status(), number);
    }

    /** "that was not BAD, STATE, FULL"; nor what is no call with a ROW. */
    private static void statusOfWhatIsNeither() {
        HammockReach x = Expect.read("t9,1;o0,1,1,0;");
        x.set(3, 0, 0);
        int[] answers = {x.row(8, 0, 1), x.row(0, 3, 1), x.row(0, 0, 41), x.set(-1, 0, 0), x.copy(0, 0, 8, 0, 0), x.drop(8),
            x.fits(1, 0, 0, 1, 0), x.fits(0, 8, 0, 1, 0), x.fits(0, 0, 0, 17, 0), x.as(1, 0), x.as(0, 6), x.minutes(0),
            x.sling(0, 1, 0), x.load(0, 21), x.cord(0, 2), x.image(2), x.restore(2)};
        for (int answer : answers) {
            e.is("each is BAD", answer, Expect.BAD);
        }
        e.is("STATE", x.undo(), Expect.STATE);
        e.is("none of these is told", x.status(), 1);
        e.is("what is done", x.minutes(1) + x.load(0, 2) + x.image(0) + x.restore(0) + x.ask(0, 0) + x.forest(), 2 - 196 - 1000100);
        e.is("nor of these", x.status(), 1);
    }
}
