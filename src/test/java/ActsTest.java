/** Promises 9 to 14, 26, 27 and 32. */
public final class ActsTest {
    private static final Expect e = new Expect();

    public static void main(String[] args) {
        goesThroughMinutes();
        endsAtMinute999();
        slings();
        loads();
        cutsAndTies();
        undoesTheLatestFirst();
        forgetsTheOldest();
        tellsOfAHammock();
        keepsImages();
        counts();
        e.end();
    }

    private static void goesThroughMinutes() {
        HammockReach x = Expect.read("t10,0;v0,1,8,0;c0,1,11,0;");
        e.is("24 minutes", x.minutes(24), 2);
        e.is("up to 29", x.minutes(5), 2);
        e.is("the vine dips at 30", x.minutes(1), 3);
        e.is("MINUTE", x.count(2), 30);
        e.is("0", x.minutes(0), Expect.BAD);
        e.is("-1", x.minutes(-1), Expect.BAD);
        e.is("25", x.minutes(25), Expect.BAD);
        e.is("most", x.minutes(Integer.MAX_VALUE), Expect.BAD);
        e.is("MINUTE stays", x.count(2), 30);
        HammockReach y = Expect.read("t10,0;");
        y.minutes(3);
        e.is("an ACT each", y.count(6), 3);
    }

    private static void endsAtMinute999() {
        HammockReach x = Expect.read("t10,0;c0,1,1,5;");
        for (int i = 0; i < 41; i++) {
            x.minutes(24);
        }
        e.is("beyond 999", x.minutes(16), Expect.FULL);
        e.is("MINUTE", x.count(2), 984);
        e.is("BAD ahead of FULL", x.minutes(25), Expect.BAD);
        e.is("to 999", x.minutes(15), 0);
        e.is("beyond", x.minutes(1), Expect.FULL);
        e.is("MINUTE 999", x.count(2), 999);
        e.is("where, 999 is 19 of 20", x.hammock(0, 6), -1);
        e.is("foretold beyond", x.ahead(0, 1, 0), 1);
        x.undo();
        e.is("room again", x.minutes(1), 0);
    }

    private static void slings() {
        HammockReach x = Expect.read("t9,1;c1,4,3,2;");
        x.minutes(1);
        e.is("sling", x.sling(0, 2, 8), 12);
        e.is("A", x.hammock(0, 0), 2);
        e.is("B", x.hammock(0, 1), 8);
        e.is("DIP", x.hammock(0, 5), 6);
        e.is("it is so", x.sling(0, 2, 8), Expect.STATE);
        e.is("one tree is the same", x.sling(0, 2, 9), 13);
        e.is("between the outmost", x.sling(0, 0, 11), 13);
        e.is("alike", x.sling(0, 3, 3), Expect.BAD);
        e.is("b below a", x.sling(0, 4, 3), Expect.BAD);
        e.is("a -1", x.sling(0, -1, 3), Expect.BAD);
        e.is("b 12", x.sling(0, 3, 12), Expect.BAD);
        e.is("hammock 1", x.sling(1, 3, 4), Expect.BAD);
        e.is("hammock -1", x.sling(-1, 3, 4), Expect.BAD);
        e.is("ACTS", x.count(6), 4);
    }

    private static void loads() {
        HammockReach x = Expect.read("t9,1;c1,4,3,2;r2,5,3,0;");
        e.is("20", x.load(0, 20), 21);
        e.is("WEIGHT", x.hammock(0, 2), 20);
        e.is("alike is an ACT", x.load(0, 20), 21);
        e.is("1", x.load(0, 1), 2);
        e.is("a branch", x.load(1, 9), 3);
        e.is("0", x.load(0, 0), Expect.BAD);
        e.is("21", x.load(0, 21), Expect.BAD);
        e.is("hammock 2", x.load(2, 1), Expect.BAD);
        e.is("ACTS", x.count(6), 4);
    }

    private static void cutsAndTies() {
        HammockReach x = Expect.read("t9,1;c1,4,3,2;r2,5,3,0;o2,5,3,0;");
        e.is("tied already", x.cord(1, 0), Expect.STATE);
        e.is("cut", x.cord(1, 1), 2);
        e.is("cut already", x.cord(1, 1), Expect.STATE);
        e.is("cut a root's", x.cord(2, 1), 6);
        e.is("both are down", x.down(0), 6);
        e.is("count(5)", x.count(5), 2);
        e.is("whether it is", x.hammock(1, 4), 1);
        e.is("tie", x.cord(1, 0), 4);
        e.is("whether it is", x.hammock(1, 4), 0);
        e.is("2", x.cord(0, 2), Expect.BAD);
        e.is("-1", x.cord(0, -1), Expect.BAD);
        e.is("hammock 3", x.cord(3, 1), Expect.BAD);
        e.is("ACTS", x.count(6), 3);
    }

    private static void undoesTheLatestFirst() {
        HammockReach x = Expect.read("t9,1;c1,4,3,2;s2,5,3,1;");
        x.sling(0, 2, 8);
        x.load(0, 7);
        x.cord(1, 1);
        x.minutes(2);
        x.cord(1, 0);
        x.load(0, 7);
        e.is("a load by which nothing changed", x.undo(), 6);
        e.is("WEIGHT", x.hammock(0, 2), 7);
        e.is("the tying", x.undo(), 5);
        e.is("CUT", x.hammock(1, 4), 1);
        e.is("a minute", x.undo(), 4);
        e.is("MINUTE", x.count(2), 1);
        e.is("another", x.undo(), 3);
        e.is("MINUTE 0", x.count(2), 0);
        e.is("the cut", x.undo(), 2);
        e.is("none is CUT", x.count(5), 0);
        e.is("the load", x.undo(), 1);
        e.is("WEIGHT", x.hammock(0, 2), 3);
        e.is("the sling", x.undo(), 0);
        e.is("A", x.hammock(0, 0), 1);
        e.is("B", x.hammock(0, 1), 4);
        e.is("WEIGHT stays", x.hammock(0, 2), 3);
        e.is("none", x.undo(), Expect.STATE);
    }

    private static void forgetsTheOldest() {
        HammockReach x = Expect.read("t9,1;c1,4,3,2;");
        x.load(0, 5);
        x.load(0, 6);
        x.minutes(23);
        e.is("24 at most", x.count(6), 24);
        for (int i = 23; i >= 0; i--) {
            e.is("undo", x.undo(), i);
        }
        e.is("the oldest is forgotten", x.undo(), Expect.STATE);
        e.is("MINUTE", x.count(2), 0);
        e.is("what it did stays", x.hammock(0, 2), 5);
        x.load(0, 8);
        e.is("kept anew", x.undo(), 0);
        e.is("undone", x.hammock(0, 2), 5);
    }

    private static void tellsOfAHammock() {
        HammockReach x = Expect.read("t9,1;r0,1,1,0;v3,8,6,4;");
        x.minutes(10);
        int[] due = {3, 8, 6, 4, 0, 9, 17};
        for (int what = 0; what < 7; what++) {
            e.is("hammock(1, " + what + ")", x.hammock(1, what), due[what]);
        }
        e.is("7", x.hammock(1, 7), Expect.BAD);
        e.is("-1", x.hammock(1, -1), Expect.BAD);
        e.is("hammock 2", x.hammock(2, 0), Expect.BAD);
    }

    private static void keepsImages() {
        HammockReach x = Expect.read("t9,1;c1,4,3,2;");
        x.minutes(2);
        e.is("none was kept", x.restore(0), Expect.STATE);
        e.is("image", x.image(0), 1);
        e.is("ACTS stay", x.count(6), 2);
        x.sling(0, 5, 6);
        x.load(0, 9);
        x.cord(0, 1);
        x.minutes(3);
        e.is("image 1", x.image(1), 1);
        e.is("restore", x.restore(0), 1);
        e.is("MINUTE", x.count(2), 2);
        e.is("A", x.hammock(0, 0), 1);
        e.is("B", x.hammock(0, 1), 4);
        e.is("WEIGHT", x.hammock(0, 2), 3);
        e.is("CUT", x.count(5), 0);
        e.is("no ACT can be undone", x.undo(), Expect.STATE);
        x.load(0, 11);
        e.is("again", x.restore(0), 1);
        e.is("an IMAGE does not change", x.hammock(0, 2), 3);
        e.is("the other", x.restore(1), 1);
        e.is("MINUTE", x.count(2), 5);
        e.is("WEIGHT", x.hammock(0, 2), 9);
        e.is("CUT", x.count(5), 1);
        x.restore(0);
        x.image(1);
        x.minutes(1);
        e.is("in place of the one before", x.restore(1), 1);
        e.is("MINUTE", x.count(2), 2);
        e.is("image 2", x.image(2), Expect.BAD);
        e.is("image -1", x.image(-1), Expect.BAD);
        e.is("restore 2", x.restore(2), Expect.BAD);
        e.is("restore -1", x.restore(-1), Expect.BAD);
    }

    private static void counts() {
        HammockReach x = Expect.read("t9,1;c1,4,3,2;s1,2,1,1;");
        x.row(4, 0, 0);
        x.row(5, 0, 3);
        x.row(6, 2, 3);
        x.minutes(4);
        x.cord(1, 1);
        x.feed('t');
        x.feed('x');
        int[] due = {3, 2, 4, 9, 1, 1, 5, 2};
        for (int what = 0; what < 8; what++) {
            e.is("count(" + what + ")", x.count(what), due[what]);
        }
        e.is("count(8)", x.count(8), Expect.BAD);
        e.is("count(-1)", x.count(-1), Expect.BAD);
    }
}
