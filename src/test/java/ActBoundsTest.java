/** Acts and images (promises 9 to 14, 26, 27, 32): each bound that the document names has a test of its own. */
public final class ActBoundsTest {
    private static final int MOST = Integer.MAX_VALUE, LEAST = Integer.MIN_VALUE;
    private static final Expect e = new Expect();

    public static void main(String[] args) {
        minutesAre1To24();
        minutesWithoutAForest();
        minutesEndAt999();
        minutesAfter999();
        treesOfASlingGoFrom0To11();
        bOfASlingIsAboveA();
        aSlingThatIsSo();
        weightsGoFrom1To20();
        cutIs0Or1();
        aCordThatIsSo();
        hammocksEndWithTheForest();
        whatOfAHammockGoesFrom0To6();
        undoesNone();
        undoes24();
        forgetsThe25th();
        undoesBehindTheRingsEnd();
        undoesWhatBecameNothingElse();
        refusedActsAreNotKept();
        noActBehindAForest();
        noActBehindAnImage();
        imagesAre0And1();
        imagesWithoutAForest();
        imagesStayAsKept();
        anImageOfEachThing();
        anImageBehindAnotherForest();
        countsGoFrom0To7();
        e.end();
    }

    /** "n MINUTES (1 to 24)". */
    private static void minutesAre1To24() {
        HammockReach x = Expect.read("t9,0;");
        e.is("1", x.minutes(1), 0);
        e.is("MINUTE", x.count(2), 1);
        e.is("24", x.minutes(24), 0);
        e.is("MINUTE", x.count(2), 25);
        for (int n : new int[] {0, -1, 25, LEAST, MOST}) {
            e.is("minutes(" + n + ")", x.minutes(n), Expect.BAD);
        }
        e.is("MINUTE stays", x.count(2), 25);
    }

    /** "STATE: no FOREST (ahead of BAD)". */
    private static void minutesWithoutAForest() {
        HammockReach x = new HammockReach();
        for (int n : new int[] {1, 24, 0, 25, -1}) {
            e.is("minutes(" + n + ")", x.minutes(n), Expect.STATE);
        }
        Expect.feedAll(x, "t9,");
        x.forest();
        e.is("behind a fault", x.minutes(1), Expect.STATE);
        e.is("behind a fault, BAD", x.minutes(0), Expect.STATE);
        e.is("MINUTE", x.count(2), 0);
    }

    /** "FULL: beyond MINUTE 999". */
    private static void minutesEndAt999() {
        HammockReach x = at(Expect.read("t9,0;"), 976);
        e.is("24 to 1000", x.minutes(24), Expect.FULL);
        e.is("MINUTE", x.count(2), 976);
        e.is("ACTS stay", x.count(6), 24);
        e.is("23 to 999", x.minutes(23), 0);
        e.is("MINUTE", x.count(2), 999);
        e.is("1 to 1000", x.minutes(1), Expect.FULL);
        e.is("24", x.minutes(24), Expect.FULL);
        e.is("BAD ahead of FULL", x.minutes(25), Expect.BAD);
        e.is("BAD 0 ahead of FULL", x.minutes(0), Expect.BAD);
        HammockReach y = at(Expect.read("t9,0;"), 975);
        e.is("24 to 999", y.minutes(24), 0);
        e.is("MINUTE", y.count(2), 999);
    }

    private static void minutesAfter999() {
        HammockReach x = Expect.read("t99,0;".replace("99", "40") + "v0,1,1,5;c0,1,1,5;");
        x.image(0);
        at(x, 999);
        // 999 by 10 is 99; 999 by 2 is 499, that is 19 of 20, one below.
        e.is("DIP", x.hammock(0, 5), 100);
        e.is("WHERE", x.hammock(0, 6), -1);
        e.is("DOWN", x.down(0), 1);
        e.is("foretold to 1059", x.ahead(1, 60, 0), -1);
        e.is("foretold to 1059", x.ahead(0, 60, 1), 106);
        e.is("other ACTS", x.load(0, 2), 101);
        x.undo();
        e.is("one back", x.undo(), 22);
        e.is("MINUTE", x.count(2), 998);
        e.is("2 are too many", x.minutes(2), Expect.FULL);
        e.is("one on", x.minutes(1), 1);
        e.is("restored", x.restore(0), 1);
        e.is("from 0 on", x.minutes(24), 0);
        at(x, 999);
        Expect.feedAll(x, "t9,0;");
        x.forest();
        e.is("another forest", x.minutes(24), 0);
    }

    private static HammockReach at(HammockReach x, int minute) {
        while (x.count(2) < minute) {
            x.minutes(Math.min(24, minute - x.count(2)));
        }
        return x;
    }

    /** "between a and b", TREES 0 to 11. */
    private static void treesOfASlingGoFrom0To11() {
        HammockReach x = Expect.read("t9,0;r4,5,1,0;");
        e.is("0 and 1", x.sling(0, 0, 1), 1);
        e.is("10 and 11", x.sling(0, 10, 11), 21);
        e.is("0 and 11", x.sling(0, 0, 11), 11);
        int[][] bad = {{-1, 1}, {0, 12}, {11, 12}, {LEAST, 1}, {0, MOST}, {LEAST, MOST}, {-1, 12}, {-1, -1}};
        for (int[] trees : bad) {
            e.is("sling(0, " + trees[0] + ", " + trees[1] + ")", x.sling(0, trees[0], trees[1]), Expect.BAD);
        }
        e.is("A", x.hammock(0, 0), 0);
        e.is("B", x.hammock(0, 1), 11);
        e.is("ACTS", x.count(6), 3);
    }

    /** "(b above a)". */
    private static void bOfASlingIsAboveA() {
        HammockReach x = Expect.read("t9,0;r4,7,1,0;");
        e.is("one above", x.sling(0, 4, 5), 9);
        e.is("alike", x.sling(0, 4, 4), Expect.BAD);
        e.is("below", x.sling(0, 5, 4), Expect.BAD);
        e.is("11 and 0", x.sling(0, 11, 0), Expect.BAD);
        e.is("0 and 0", x.sling(0, 0, 0), Expect.BAD);
        e.is("11 and 11", x.sling(0, 11, 11), Expect.BAD);
    }

    /** "STATE: it is so". */
    private static void aSlingThatIsSo() {
        HammockReach x = Expect.read("t9,0;r4,7,1,0;r2,3,1,0;");
        e.is("as told", x.sling(0, 4, 7), Expect.STATE);
        e.is("as another one is", x.sling(0, 2, 3), 5);
        e.is("so now", x.sling(0, 2, 3), Expect.STATE);
        e.is("with another B", x.sling(0, 2, 4), 6);
        e.is("with another A", x.sling(0, 3, 4), 7);
        e.is("as it was", x.sling(0, 4, 7), 11);
        x.undo();
        e.is("undone, so again", x.sling(0, 3, 4), Expect.STATE);
        e.is("BAD ahead of STATE", x.sling(2, 3, 4), Expect.BAD);
        e.is("ACTS", x.count(6), 3);
    }

    /** "It is LOADED (1 to 20)". */
    private static void weightsGoFrom1To20() {
        HammockReach x = Expect.read("t9,0;c0,3,5,0;");
        e.is("1", x.load(0, 1), 2);
        e.is("20", x.load(0, 20), 21);
        for (int weight : new int[] {0, 21, -1, LEAST, MOST}) {
            e.is("load(0, " + weight + ")", x.load(0, weight), Expect.BAD);
        }
        e.is("WEIGHT", x.hammock(0, 2), 20);
        e.is("ACTS", x.count(6), 2);
    }

    /** "CUT (1), or TIED again (0)". */
    private static void cutIs0Or1() {
        HammockReach x = Expect.read("t9,0;c0,3,5,0;");
        e.is("cut", x.cord(0, 1), 1);
        for (int cut : new int[] {2, -1, LEAST, MOST}) {
            e.is("cord(0, " + cut + ")", x.cord(0, cut), Expect.BAD);
        }
        e.is("tied", x.cord(0, 0), 0);
        for (int cut : new int[] {2, -1}) {
            e.is("cord(0, " + cut + ")", x.cord(0, cut), Expect.BAD);
        }
        e.is("ACTS", x.count(6), 2);
    }

    /** "STATE: it is so". */
    private static void aCordThatIsSo() {
        HammockReach x = Expect.read("t9,0;c0,3,5,0;s0,3,5,0;v0,3,5,0;r0,3,5,0;o0,3,5,0;c0,3,5,0;");
        for (int h = 0; h < 6; h++) {
            e.is("tied at first", x.cord(h, 0), Expect.STATE);
            e.is("cut", x.cord(h, 1), (2 << h) - 1);
            e.is("cut already", x.cord(h, 1), Expect.STATE);
            e.is("cut cords", x.count(5), h + 1);
        }
        for (int h = 0; h < 6; h++) {
            e.is("tied", x.cord(h, 0), 62 & ~((2 << h) - 1));
            e.is("tied already", x.cord(h, 0), Expect.STATE);
        }
        e.is("ACTS", x.count(6), 12);
        e.is("BAD ahead of STATE", x.cord(6, 0), Expect.BAD);
    }

    /** "BAD (there is no such thing)". */
    private static void hammocksEndWithTheForest() {
        HammockReach x = Expect.read("t9,0;c0,3,5,0;s0,3,5,0;");
        e.is("0", x.hammock(0, 2), 5);
        e.is("1", x.load(1, 2), 1);
        for (int h : new int[] {2, 5, 6, -1, LEAST, MOST}) {
            e.is("sling", x.sling(h, 0, 1), Expect.BAD);
            e.is("load", x.load(h, 1), Expect.BAD);
            e.is("cord", x.cord(h, 1), Expect.BAD);
            e.is("hammock", x.hammock(h, 0), Expect.BAD);
        }
        HammockReach none = new HammockReach();
        e.is("sling of none", none.sling(0, 0, 1), Expect.BAD);
        e.is("load of none", none.load(0, 1), Expect.BAD);
        e.is("cord of none", none.cord(0, 0), Expect.BAD);
        e.is("hammock of none", none.hammock(0, 0), Expect.BAD);
    }

    private static void whatOfAHammockGoesFrom0To6() {
        HammockReach x = Expect.read("t9,0;v2,7,5,3;");
        x.minutes(20);
        x.cord(0, 1);
        int[] due = {2, 7, 5, 3, 1, 9, 5};
        for (int what = 0; what < 7; what++) {
            e.is("hammock(0, " + what + ")", x.hammock(0, what), due[what]);
        }
        for (int what : new int[] {7, -1, LEAST, MOST}) {
            e.is("hammock(0, " + what + ")", x.hammock(0, what), Expect.BAD);
        }
    }

    /** "STATE: none". */
    private static void undoesNone() {
        e.is("no forest", new HammockReach().undo(), Expect.STATE);
        HammockReach x = Expect.read("t9,0;c0,3,5,0;");
        e.is("none yet", x.undo(), Expect.STATE);
        x.load(0, 1);
        e.is("one", x.undo(), 0);
        e.is("none any more", x.undo(), Expect.STATE);
        e.is("it is as told", x.hammock(0, 2), 5);
    }

    /** "24 at most are kept". */
    private static void undoes24() {
        HammockReach x = Expect.read("t9,0;c0,3,20,0;");
        for (int i = 1; i <= 24; i++) {
            x.load(0, 1 + i % 20);
            e.is("ACTS", x.count(6), i);
        }
        for (int i = 23; i >= 0; i--) {
            e.is("undo", x.undo(), i);
            e.is("WEIGHT", x.hammock(0, 2), i == 0 ? 20 : 1 + i % 20);
        }
        e.is("none", x.undo(), Expect.STATE);
    }

    /** "of more the oldest is forgotten". */
    private static void forgetsThe25th() {
        HammockReach x = Expect.read("t9,0;c0,3,20,0;");
        x.sling(0, 4, 5);
        x.minutes(24);
        e.is("24", x.count(6), 24);
        for (int i = 23; i >= 0; i--) {
            e.is("undo", x.undo(), i);
        }
        e.is("none", x.undo(), Expect.STATE);
        e.is("MINUTE", x.count(2), 0);
        e.is("the oldest stays done", x.hammock(0, 0), 4);
        HammockReach y = Expect.read("t9,0;c0,3,20,0;");
        y.sling(0, 4, 5);
        y.minutes(23);
        for (int i = 23; i >= 0; i--) {
            e.is("undo", y.undo(), i);
        }
        e.is("of 24 it is undone, too", y.hammock(0, 0), 0);
    }

    /** 30 acts of all sorts, of which the last 24 are undone, and 24 more, of which some are undone, too. */
    private static void undoesBehindTheRingsEnd() {
        HammockReach x = Expect.read("t40,0;c0,3,20,0;s0,1,1,0;");
        int[][] was = new int[30][];
        for (int i = 0; i < 30; i++) {
            was[i] = i < 6 ? null : told(x);
            act(x, i);
        }
        for (int i = 29; i >= 6; i--) {
            e.is("undo", x.undo(), i - 6);
            same(x, was[i], i);
        }
        e.is("none", x.undo(), Expect.STATE);
        for (int i = 6; i < 30; i++) {
            act(x, i);
        }
        for (int i = 29; i >= 22; i--) {
            x.undo();
            same(x, was[i], i);
        }
    }

    private static void act(HammockReach x, int i) {
        switch (i % 4) {
            case 0: x.minutes(1); break;
            case 1: x.sling(i / 4 % 2, i % 9, 10); break;
            case 2: x.load(0, 1 + i % 19); break;
            default: x.cord(1, 1 - x.hammock(1, 4)); break;
        }
    }

    private static int[] told(HammockReach x) {
        return new int[] {x.count(2), x.hammock(0, 0), x.hammock(1, 0), x.hammock(0, 2), x.hammock(1, 4)};
    }

    private static void same(HammockReach x, int[] was, int i) {
        int[] is = told(x);
        for (int k = 0; k < was.length; k++) {
            e.is("told " + k + " ahead of act " + i, is[k], was[k]);
        }
    }

    /** "also such by which nothing becomes another". */
    private static void undoesWhatBecameNothingElse() {
        HammockReach x = Expect.read("t9,0;c0,3,20,0;");
        e.is("loaded alike", x.load(0, 20), 21);
        e.is("an ACT", x.count(6), 1);
        x.load(0, 7);
        x.load(0, 7);
        e.is("undone", x.undo(), 2);
        e.is("nothing", x.hammock(0, 2), 7);
        e.is("undone", x.undo(), 1);
        e.is("a load", x.hammock(0, 2), 20);
        e.is("undone", x.undo(), 0);
        e.is("nothing", x.hammock(0, 2), 20);
    }

    /** "What is refused changes nothing": no ACT is kept, none of 24 forgotten. */
    private static void refusedActsAreNotKept() {
        HammockReach x = at(Expect.read("t9,0;c0,3,20,0;"), 998);
        x.load(0, 6);
        x.minutes(1);
        int[] answers = {x.minutes(1), x.minutes(0), x.sling(0, 0, 3), x.sling(0, 3, 0), x.load(0, 0), x.cord(0, 0), x.cord(0, 2)};
        int[] due = {Expect.FULL, Expect.BAD, Expect.STATE, Expect.BAD, Expect.BAD, Expect.STATE, Expect.BAD};
        for (int i = 0; i < due.length; i++) {
            e.is("refused " + i, answers[i], due[i]);
        }
        e.is("24", x.count(6), 24);
        x.undo();
        e.is("the minute", x.count(2), 998);
        x.undo();
        e.is("the load", x.hammock(0, 2), 20);
    }

    /** "A FOREST that is read: no ACT can be undone". */
    private static void noActBehindAForest() {
        HammockReach x = Expect.read("t9,0;c0,3,20,0;");
        x.minutes(24);
        Expect.feedAll(x, "t9,0;c0,3,20,0;");
        x.forest();
        e.is("ACTS", x.count(6), 0);
        e.is("undo", x.undo(), Expect.STATE);
        x.load(0, 3);
        e.is("one since", x.undo(), 0);
        e.is("none before", x.undo(), Expect.STATE);
        e.is("MINUTE", x.count(2), 0);
    }

    /** "(no ACT can be undone then)". */
    private static void noActBehindAnImage() {
        HammockReach x = Expect.read("t9,0;c0,3,20,0;");
        x.minutes(5);
        x.image(0);
        e.is("an image leaves them", x.count(6), 5);
        e.is("STATE leaves them", x.restore(1), Expect.STATE);
        e.is("BAD leaves them", x.restore(2), Expect.BAD);
        e.is("ACTS", x.count(6), 5);
        x.restore(0);
        e.is("none", x.count(6), 0);
        e.is("undo", x.undo(), Expect.STATE);
        e.is("MINUTE", x.count(2), 5);
    }

    /** "An IMAGE (0, 1)". */
    private static void imagesAre0And1() {
        HammockReach x = Expect.read("t9,0;c0,3,20,0;");
        for (int k = 0; k < 2; k++) {
            e.is("none was kept", x.restore(k), Expect.STATE);
            e.is("image", x.image(k), 1);
            e.is("restore", x.restore(k), 1);
        }
        for (int k : new int[] {2, -1, LEAST, MOST}) {
            e.is("image(" + k + ")", x.image(k), Expect.BAD);
            e.is("restore(" + k + ")", x.restore(k), Expect.BAD);
        }
    }

    /** "BAD; STATE: no FOREST": BAD is ahead here. */
    private static void imagesWithoutAForest() {
        HammockReach x = new HammockReach();
        for (int k = 0; k < 2; k++) {
            e.is("image", x.image(k), Expect.STATE);
            e.is("restore", x.restore(k), Expect.STATE);
        }
        e.is("BAD ahead of STATE", x.image(2), Expect.BAD);
        e.is("BAD ahead of STATE", x.restore(-1), Expect.BAD);
        Expect.feedAll(x, "t9,0;");
        x.forest();
        e.is("what was refused kept none", x.restore(0), Expect.STATE);
    }

    private static void imagesStayAsKept() {
        HammockReach x = Expect.read("t9,0;c0,3,20,0;");
        x.image(0);
        x.minutes(1);
        x.image(1);
        x.minutes(1);
        for (int round = 0; round < 2; round++) {
            x.restore(0);
            e.is("0", x.count(2), 0);
            x.sling(0, 5, 6);
            x.load(0, 1);
            x.cord(0, 1);
            x.restore(1);
            e.is("1", x.count(2), 1);
            e.is("A", x.hammock(0, 0), 0);
            e.is("WEIGHT", x.hammock(0, 2), 20);
            e.is("CUT", x.hammock(0, 4), 0);
        }
    }

    /** "The FOREST is as an IMAGE kept it". */
    private static void anImageOfEachThing() {
        HammockReach x = Expect.read("t9,2;c0,3,20,1;v1,2,3,4;");
        x.minutes(7);
        x.cord(1, 1);
        x.image(1);
        Expect.feedAll(x, "t8,1;s4,5,6,2;r6,7,8,3;o8,9,10,5;");
        x.forest();
        e.is("restore", x.restore(1), 1);
        int[] due = {0, 2, 7, 9, 2, 1, 0, 0};
        for (int what = 0; what < 8; what++) {
            e.is("count(" + what + ")", x.count(what), due[what]);
        }
        int[][] told = {{0, 3, 20, 1, 0, 21, 1}, {1, 2, 3, 4, 1, 3, 9}};
        for (int h = 0; h < 2; h++) {
            for (int what = 0; what < 7; what++) {
                e.is("hammock(" + h + ", " + what + ")", x.hammock(h, what), told[h][what]);
            }
            e.is("kind", x.kind(h), h == 0 ? 1 : 3);
        }
        e.is("no third", x.kind(2), Expect.BAD);
        e.is("DOWN", x.down(0), 3);
    }

    private static void anImageBehindAnotherForest() {
        HammockReach x = Expect.read("t9,0;");
        x.image(0);
        Expect.feedAll(x, "t8,1;s4,5,6,2;");
        x.forest();
        x.cord(0, 1);
        e.is("restore", x.restore(0), 1);
        e.is("none", x.count(1), 0);
        e.is("none CUT", x.count(5), 0);
        e.is("none DOWN", x.down(0), 0);
        e.is("no HAMMOCK", x.kind(0), Expect.BAD);
    }

    private static void countsGoFrom0To7() {
        HammockReach x = Expect.read("t40,5;c0,3,20,0;c0,3,20,0;c0,3,20,0;c0,3,20,0;c0,3,20,0;c0,3,20,0;");
        for (int row = 0; row < 8; row++) {
            x.row(row, 0, 0);
        }
        at(x, 999);
        for (int h = 0; h < 6; h++) {
            x.cord(h, 1);
        }
        for (int i = 0; i < 120; i++) {
            x.feed('t');
        }
        int[] due = {8, 6, 999, 40, 5, 6, 24, 120};
        for (int what = 0; what < 8; what++) {
            e.is("count(" + what + ") at most", x.count(what), due[what]);
            e.is("count(" + what + ") at least", new HammockReach().count(what), 0);
        }
        for (int what : new int[] {8, -1, LEAST, MOST}) {
            e.is("count(" + what + ")", x.count(what), Expect.BAD);
        }
    }
}
