/** Kinds and asks (promises 28 to 31, 33): each bound that the document names has a test of its own. */
public final class AskBoundsTest {
    private static final int MOST = Integer.MAX_VALUE, LEAST = Integer.MIN_VALUE;
    private static final Expect e = new Expect();

    public static void main(String[] args) {
        kindsAre1To5();
        hammocksEndWithTheForest();
        kindsOfAsGoFrom0To5();
        eachIsAHammock();
        whatIsNoSuchKind();
        asksAre0And1();
        theTraceIsEmptyAtFirst();
        theTraceIsEmptyAheadOfAnAsk();
        theTraceStaysByBad();
        theTraceEndsWithTheLastBody();
        theTraceStaysBehindOthers();
        asksOfTheLastHammock();
        asksOfTheHighestNumbers();
        marksByTheMinute();
        asksOfWhoIsCut();
        e.end();
    }

    /** "The KIND of a HAMMOCK, as told (1 to 5)". */
    private static void kindsAre1To5() {
        HammockReach x = Expect.read("t9,0;o0,1,1,0;r0,1,1,0;v0,1,1,0;s0,1,1,0;c0,1,1,0;");
        for (int h = 0; h < 5; h++) {
            e.is("kind(" + h + ")", x.kind(h), 5 - h);
        }
        x.as(0, 4);
        x.load(0, 9);
        x.sling(0, 4, 9);
        x.cord(0, 1);
        e.is("it stays", x.kind(0), 5);
    }

    private static void hammocksEndWithTheForest() {
        HammockReach x = Expect.read("t9,0;o0,1,1,0;r0,1,1,0;");
        HammockReach none = new HammockReach();
        for (int h : new int[] {2, 5, 6, -1, LEAST, MOST}) {
            e.is("kind(" + h + ")", x.kind(h), Expect.BAD);
            e.is("as(" + h + ", 0)", x.as(h, 0), Expect.BAD);
            e.is("ask(" + h + ", 0)", x.ask(h, 0), Expect.BAD);
            e.is("ask(" + h + ", 1)", x.ask(h, 1), Expect.BAD);
        }
        e.is("kind of none", none.kind(0), Expect.BAD);
        e.is("as of none", none.as(0, 0), Expect.BAD);
        e.is("ask of none", none.ask(0, 0), Expect.BAD);
    }

    /** "as one of a KIND (0 .. 5)". */
    private static void kindsOfAsGoFrom0To5() {
        HammockReach x = Expect.read("t9,0;o0,1,1,0;");
        e.is("0", x.as(0, 0), 0);
        e.is("5", x.as(0, 5), 0);
        for (int kind : new int[] {6, -1, LEAST, MOST}) {
            e.is("as(0, " + kind + ")", x.as(0, kind), Expect.BAD);
        }
        e.is("BAD of both", x.as(1, 6), Expect.BAD);
    }

    /** "0 HAMMOCK". */
    private static void eachIsAHammock() {
        HammockReach x = Expect.read("t9,0;c0,1,1,0;s0,1,1,0;v0,1,1,0;r0,1,1,0;o0,1,1,0;");
        for (int h = 0; h < 5; h++) {
            e.is("as(" + h + ", 0)", x.as(h, 0), h);
            e.is("status", x.status(), 0);
            e.is("what it is told as", x.as(h, h + 1), h);
        }
    }

    /** "3 KIND (a HAMMOCK that is not that)". */
    private static void whatIsNoSuchKind() {
        HammockReach x = Expect.read("t9,0;c0,1,1,0;s0,1,1,0;v0,1,1,0;r0,1,1,0;o0,1,1,0;");
        int[][] no = {{0, 2}, {0, 3}, {0, 4}, {0, 5}, {1, 3}, {1, 4}, {1, 5}, {2, 2}, {2, 4}, {2, 5}, {3, 1}, {3, 2}, {3, 3},
            {3, 5}, {4, 1}, {4, 2}, {4, 3}};
        int[][] yes = {{1, 1}, {2, 1}, {4, 4}};
        for (int[] pair : no) {
            e.is("as(" + pair[0] + ", " + pair[1] + ")", x.as(pair[0], pair[1]), Expect.NO_KIND);
            e.is("status", x.status(), 3);
            x.as(0, 0);
        }
        for (int[] pair : yes) {
            x.as(0, 5);
            e.is("as(" + pair[0] + ", " + pair[1] + ")", x.as(pair[0], pair[1]), pair[0]);
            e.is("status", x.status(), 0);
        }
    }

    /** "An ASK (0, 1)". */
    private static void asksAre0And1() {
        HammockReach x = Expect.read("t9,0;c0,1,4,0;");
        e.is("SIZE", x.ask(0, 0), 8);
        e.is("MARK", x.ask(0, 1), 4);
        for (int what : new int[] {2, -1, LEAST, MOST}) {
            e.is("ask(0, " + what + ")", x.ask(0, what), Expect.BAD);
        }
    }

    private static void theTraceIsEmptyAtFirst() {
        HammockReach x = new HammockReach();
        for (int i : new int[] {0, 1, 15, 16, -1, LEAST, MOST}) {
            e.is("trace(" + i + ")", x.trace(i), Expect.NONE);
        }
    }

    /** "THE TRACE is empty ahead of it": the longest, and then the shortest. */
    private static void theTraceIsEmptyAheadOfAnAsk() {
        HammockReach x = Expect.read("t9,0;s0,1,4,0;c0,1,4,0;");
        x.ask(0, 0);
        trace(x, new int[] {12, 11, 10, 24, 21, 20});
        x.ask(1, 1);
        trace(x, new int[] {21, 20});
        x.ask(0, 0);
        x.ask(0, 0);
        trace(x, new int[] {12, 11, 10, 24, 21, 20});
    }

    /** "BAD (THE TRACE stays then)". */
    private static void theTraceStaysByBad() {
        HammockReach x = Expect.read("t9,0;s0,1,4,0;c0,1,4,0;");
        x.ask(1, 0);
        x.ask(2, 0);
        x.ask(-1, 1);
        x.ask(0, 2);
        x.ask(0, -1);
        trace(x, new int[] {11, 10, 21, 20});
    }

    /** "Number i of THE TRACE; NONE". */
    private static void theTraceEndsWithTheLastBody() {
        HammockReach x = Expect.read("t9,0;o0,1,4,0;");
        x.ask(0, 1);
        trace(x, new int[] {23, 20, 14, 13, 10});
        e.is("-1", x.trace(-1), Expect.NONE);
        e.is("6", x.trace(6), Expect.NONE);
        e.is("15", x.trace(15), Expect.NONE);
        e.is("16", x.trace(16), Expect.NONE);
        e.is("least", x.trace(LEAST), Expect.NONE);
        e.is("most", x.trace(MOST), Expect.NONE);
    }

    private static void theTraceStaysBehindOthers() {
        HammockReach x = Expect.read("t9,0;r0,1,4,0;");
        x.ask(0, 0);
        x.image(0);
        x.minutes(1);
        x.kind(0);
        x.as(0, 4);
        x.undo();
        x.restore(0);
        trace(x, new int[] {13, 10});
        Expect.feedAll(x, "t9,0;");
        x.forest();
        trace(x, new int[] {13, 10});
    }

    /** "20 lent to all HAMMOCKS: the number". */
    private static void asksOfTheLastHammock() {
        for (int k = 0; k < 5; k++) {
            char sort = "csvro".charAt(k);
            HammockReach x = Expect.read("t9,0;r0,1,1,0;r0,1,1,0;r0,1,1,0;r0,1,1,0;r0,1,1,0;" + sort + "0,1,4,0;");
            int[] sizes = {4 + 9, 0 - (4 + 14), 4 - 991, 4 - 100, 2 * (4 - 100)};
            int[] marks = {5 + 4, 2 * (5 + 2), 5 + 4 - 1000, 5 + 96, 5 + 192};
            e.is("SIZE of " + sort, x.ask(5, 0), sizes[k]);
            e.is("MARK of " + sort, x.ask(5, 1), marks[k]);
        }
    }

    private static void asksOfTheHighestNumbers() {
        HammockReach x = Expect.read("t9,0;c0,11,20,0;s0,11,20,0;v0,11,20,0;r0,11,20,0;o0,11,20,0;r0,11,1,0;");
        int[] sizes = {20 + 25, 0 - (20 + 26), 20 + 27 - 1000, -80, -160, -99};
        int[] marks = {25, 26, 27 - 1000, 3 + 80, 4 + 160, 5 + 99};
        for (int h = 0; h < 6; h++) {
            e.is("SIZE of " + h, x.ask(h, 0), sizes[h]);
            e.is("MARK of " + h, x.ask(h, 1), marks[h]);
        }
    }

    /** "and DIP": of this MINUTE. */
    private static void marksByTheMinute() {
        HammockReach x = Expect.read("t9,0;v0,1,4,0;");
        int[] due = {-996, -996, -995, -995};
        for (int i = 0; i < 4; i++) {
            e.is("MARK", x.ask(0, 1), due[i]);
            e.is("SIZE", x.ask(0, 0), due[i] + 4);
            x.minutes(i == 0 ? 9 : i == 1 ? 1 : 9);
        }
        e.is("28", x.ask(0, 1), -994);
        x.undo();
        e.is("27", x.ask(0, 1), -994);
        for (int i = 0; i < 8; i++) {
            x.undo();
        }
        e.is("19", x.ask(0, 1), -995);
    }

    private static void asksOfWhoIsCut() {
        HammockReach x = Expect.read("t0,0;c0,1,4,0;");
        x.cord(0, 1);
        e.is("SIZE", x.ask(0, 0), 8);
        e.is("MARK", x.ask(0, 1), 4);
        e.is("as", x.as(0, 1), 0);
        e.is("kind", x.kind(0), 1);
    }

    private static void trace(HammockReach x, int[] bodies) {
        for (int i = 0; i < bodies.length; i++) {
            e.is("trace(" + i + ")", x.trace(i), bodies[i]);
        }
        e.is("behind the last", x.trace(bodies.length), Expect.NONE);
    }
}
