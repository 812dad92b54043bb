/** Promises 2 to 5, and 33 by calls with rows. */
public final class RowsTest {
    private static final Expect e = new Expect();

    public static void main(String[] args) {
        makesRows();
        setsItems();
        copiesItems();
        dropsRows();
        tellsFindings();
        e.end();
    }

    private static void makesRows() {
        HammockReach x = new HammockReach();
        for (int row = 0; row < 8; row++) {
            e.is("row", x.row(row, row % 3, 5 * row), 5 * row);
        }
        e.is("count(0)", x.count(0), 8);
        e.is("row of 40", x.row(7, 2, 40), 40);
        e.is("the last item", x.set(7, 39, 1), 1);
        e.is("row 8", x.row(8, 0, 0), Expect.BAD);
        e.is("row -1", x.row(-1, 0, 0), Expect.BAD);
        e.is("lane 3", x.row(0, 3, 0), Expect.BAD);
        e.is("lane -1", x.row(0, -1, 0), Expect.BAD);
        e.is("n 41", x.row(0, 0, 41), Expect.BAD);
        e.is("n most", x.row(0, 0, Integer.MAX_VALUE), Expect.BAD);
        e.is("n -1", x.row(7, 0, -1), Expect.NO_SIZE);
        e.is("n least", x.row(7, 0, Integer.MIN_VALUE), Expect.NO_SIZE);
        e.is("BAD ahead of SIZE", x.row(7, 3, -1), Expect.BAD);
        e.is("what is found changes no row", x.drop(7), 40);
        startsItemsAtNothing();
    }

    private static void startsItemsAtNothing() {
        HammockReach x = Expect.read("t40,0;o0,1,1,0;");
        x.row(0, 2, 2);
        x.set(0, 0, 1);
        x.set(0, 1, 1);
        e.is("it is at 1", x.fits(0, 0, 0, 2, 0), 62);
        e.is("made anew", x.row(0, 2, 2), 2);
        e.is("it is not at 0", x.fits(0, 0, 0, 2, 0), 0);
        e.is("nobody is in reach", x.fits(0, 0, 0, 2, 2), 2097150);
    }

    private static void setsItems() {
        HammockReach x = new HammockReach();
        x.row(0, 0, 2);
        x.row(1, 1, 2);
        x.row(2, 2, 2);
        e.is("byte 127", x.set(0, 0, 127), 127);
        e.is("byte 128", x.set(0, 0, 128), -128);
        e.is("byte 511", x.set(0, 0, 511), -1);
        e.is("byte 256", x.set(0, 0, 256), 0);
        e.is("short 32767", x.set(1, 1, 32767), 32767);
        e.is("short 32768", x.set(1, 1, 32768), -32768);
        e.is("short -65537", x.set(1, 1, -65537), -1);
        e.is("int", x.set(2, 1, Integer.MIN_VALUE), Integer.MIN_VALUE);
        e.is("row 8", x.set(8, 0, 0), Expect.BAD);
        e.is("row -1", x.set(-1, 0, 0), Expect.BAD);
        e.is("missing", x.set(3, 0, 0), Expect.NO_ROW);
        e.is("missing ahead of place", x.set(3, -1, 0), Expect.NO_ROW);
        e.is("place 2", x.set(0, 2, 0), Expect.NO_PLACE);
        e.is("place -1", x.set(0, -1, 0), Expect.NO_PLACE);
        e.is("place most", x.set(0, Integer.MAX_VALUE, 0), Expect.NO_PLACE);
    }

    private static void copiesItems() {
        // Only SWING 2 fits these places, so fits() tells whether they came as they were.
        HammockReach x = Expect.read("t5,0;c0,2,1,2;");
        x.row(0, 1, 6);
        x.row(1, 1, 8);
        int[] places = {2, 4, 6, 4, 2, 0};
        for (int i = 0; i < 6; i++) {
            x.set(0, i, places[i]);
        }
        e.is("all items", x.copy(0, 0, 1, 2, 6), 6);
        e.is("they are there", x.fits(0, 1, 2, 6, 1), 4);
        e.is("upwards in one row", x.copy(0, 0, 0, 1, 5), 5);
        e.is("as they were ahead", x.fits(0, 0, 1, 5, 1), 4);
        e.is("downwards in one row", x.copy(1, 2, 1, 0, 6), 6);
        e.is("as they were ahead, too", x.fits(0, 1, 0, 6, 1), 4);
        e.is("none at the end", x.copy(0, 6, 1, 8, 0), 0);
        refusesCopies(x);
    }

    private static void refusesCopies(HammockReach x) {
        x.row(2, 0, 6);
        e.is("row 8", x.copy(8, 0, 0, 0, 1), Expect.BAD);
        e.is("to row -1", x.copy(0, 0, -1, 0, 1), Expect.BAD);
        e.is("BAD ahead of NULL", x.copy(5, 0, 8, 0, 1), Expect.BAD);
        e.is("missing", x.copy(5, 0, 0, 0, 1), Expect.NO_ROW);
        e.is("to a missing one", x.copy(0, 9, 5, 0, 1), Expect.NO_ROW);
        e.is("other lanes", x.copy(0, 0, 2, 0, 1), Expect.NO_STORE);
        e.is("lanes ahead of places", x.copy(0, -1, 2, 0, 1), Expect.NO_STORE);
        e.is("i -1", x.copy(0, -1, 1, 0, 1), Expect.NO_PLACE);
        e.is("j -1", x.copy(0, 0, 1, -1, 1), Expect.NO_PLACE);
        e.is("n -1", x.copy(0, 0, 1, 0, -1), Expect.NO_PLACE);
        e.is("beyond the end of a", x.copy(0, 1, 1, 0, 6), Expect.NO_PLACE);
        e.is("beyond the end of b", x.copy(0, 0, 1, 3, 6), Expect.NO_PLACE);
        e.is("none beyond the end", x.copy(0, 7, 1, 0, 0), Expect.NO_PLACE);
        e.is("i and n wrap", x.copy(0, Integer.MAX_VALUE, 1, 0, Integer.MAX_VALUE), Expect.NO_PLACE);
        e.is("j and n wrap", x.copy(0, 0, 1, Integer.MAX_VALUE, 1), Expect.NO_PLACE);
    }

    private static void dropsRows() {
        HammockReach x = new HammockReach();
        x.row(3, 1, 17);
        e.is("drop", x.drop(3), 17);
        e.is("none is there", x.count(0), 0);
        e.is("again", x.drop(3), Expect.NO_ROW);
        e.is("drop 8", x.drop(8), Expect.BAD);
        e.is("drop -1", x.drop(-1), Expect.BAD);
        x.row(3, 0, 0);
        e.is("a row of none", x.count(0), 1);
        e.is("drop a row of none", x.drop(3), 0);
    }

    private static void tellsFindings() {
        HammockReach x = Expect.read("t5,0;c0,2,1,2;");
        e.is("none before", x.status(), 0);
        x.drop(0);
        e.is("NULL", x.status(), 1);
        x.drop(8);
        x.minutes(0);
        x.undo();
        x.soonest(0, 0);
        e.is("what is refused leaves it", x.status(), 1);
        x.row(0, 0, 3);
        e.is("none", x.status(), 0);
        x.row(0, 0, -1);
        e.is("SIZE", x.status(), 4);
        x.set(0, 0, 2);
        e.is("none by set", x.status(), 0);
        x.set(0, 3, 0);
        e.is("PLACE", x.status(), 2);
        x.fits(0, 0, 0, 1, 0);
        e.is("none by fits", x.status(), 0);
        x.row(1, 1, 3);
        x.copy(0, 0, 1, 0, 1);
        e.is("STORE", x.status(), 5);
        x.copy(0, 0, 0, 1, 1);
        e.is("none by copy", x.status(), 0);
        x.fits(0, 2, 0, 1, 0);
        e.is("NULL by fits", x.status(), 1);
        x.fits(0, 0, 0, 17, 0);
        e.is("BAD by fits leaves it", x.status(), 1);
        x.drop(1);
        e.is("none by drop", x.status(), 0);
    }
}
