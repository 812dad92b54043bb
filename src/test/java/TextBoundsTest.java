/** Texts (promises 1, 6, 7, 8): each bound that the document names has a test of its own. */
public final class TextBoundsTest {
    private static final String SIX = "t5,0;c0,1,1,0;s0,1,1,0;v0,1,1,0;r0,1,1,0;o0,1,1,0;c0,1,1,0;";
    private static final Expect e = new Expect();

    public static void main(String[] args) {
        bytesGoFrom0To255();
        theTapeTakes120();
        aFullTapeIsRead();
        highGoesFrom0To40();
        armGoesFrom0To5();
        treesGoFrom0To11();
        bIsAboveA();
        weightGoesFrom1To20();
        swingGoesFrom0To5();
        hammocksAre0To6();
        aSeventhIsTooMany();
        theEmptyTapeHasAFault();
        anEndTooSoon();
        aRunOfThreeFigures();
        aRunOfTwoFigures();
        whatIsNoToken();
        whatIsNextToAFigureOrASort();
        eachTokenStandsWhereItCan();
        nothingStandsBehindTheLast();
        ofOneTokenTheLeast();
        theFirstTokenThatHasOne();
        faultIs0BeforeOne();
        fewerStandInPlaceOfMore();
        minute0BehindWhatWasForetold();
        aFaultLeavesAllButTheTape();
        aForestOfNone();
        e.end();
    }

    /** "A byte (0 to 255)". */
    private static void bytesGoFrom0To255() {
        HammockReach x = new HammockReach();
        e.is("0", x.feed(0), 1);
        e.is("255", x.feed(255), 2);
        for (int letter : new int[] {-1, 256, Integer.MIN_VALUE, Integer.MAX_VALUE}) {
            e.is("feed(" + letter + ")", x.feed(letter), Expect.BAD);
        }
        e.is("no more came", x.count(7), 2);
        e.is("the next", x.feed(1), 3);
    }

    /** "THE TAPE has at most 120 bytes". */
    private static void theTapeTakes120() {
        HammockReach x = new HammockReach();
        for (int i = 1; i <= 119; i++) {
            e.is("feed", x.feed('t'), i);
        }
        e.is("the 120th", x.feed('t'), 120);
        e.is("the 121st", x.feed('t'), Expect.FULL);
        e.is("it stays out", x.count(7), 120);
        e.is("BAD ahead of FULL", x.feed(-1), Expect.BAD);
        e.is("still full", x.feed('t'), Expect.FULL);
        x.forest();
        e.is("empty then", x.count(7), 0);
        e.is("the first again", x.feed('t'), 1);
    }

    private static void aFullTapeIsRead() {
        // The longest forest has 85 bytes, so that what fills the tape has a fault: at 85, not at 120.
        String longest = "t40,05;c10,11,20,05;s10,11,20,05;v10,11,20,05;r10,11,20,05;o10,11,20,05;c10,11,20,05;";
        e.is("bytes", longest.length(), 85);
        due(longest, 6);
        faulty(longest + ",".repeat(35), 85, 1);
        faulty(longest + "c".repeat(35), 85, 3);
        faulty("t40,05;c10,11,20,05;" + "0".repeat(100), 20, 1);
    }

    /** "HIGH: 0 to 40". */
    private static void highGoesFrom0To40() {
        e.is("0", Expect.read("t0,1;").count(3), 0);
        e.is("00", Expect.read("t00,1;").count(3), 0);
        e.is("9", Expect.read("t09,1;").count(3), 9);
        e.is("40", Expect.read("t40,1;").count(3), 40);
        faulty("t41,1;", 1, 2);
        faulty("t99,1;", 1, 2);
    }

    /** "ARM: 0 to 5". */
    private static void armGoesFrom0To5() {
        e.is("0", Expect.read("t7,0;").count(4), 0);
        e.is("5", Expect.read("t7,5;").count(4), 5);
        e.is("05", Expect.read("t7,05;").count(4), 5);
        faulty("t7,6;", 3, 2);
        faulty("t12,6;", 4, 2);
        faulty("t7,99;", 3, 2);
    }

    /** "TREES 0 to 11". */
    private static void treesGoFrom0To11() {
        HammockReach x = Expect.read("t7,0;c0,11,1,0;c10,11,1,0;c0,1,1,0;");
        e.is("A 0", x.hammock(0, 0), 0);
        e.is("B 11", x.hammock(0, 1), 11);
        e.is("A 10", x.hammock(1, 0), 10);
        e.is("B 1", x.hammock(2, 1), 1);
        faulty("t7,0;c12,13,1,0;", 6, 2);
        faulty("t7,0;c12", 6, 2);
        faulty("t7,0;c99,1,1,0;", 6, 2);
        faulty("t7,0;c0,12,1,0;", 8, 2);
        faulty("t7,0;c0,99,1,0;", 8, 2);
        // 11 is a tree, but none is above it.
        faulty("t7,0;c11,11,1,0;", 9, 2);
        faulty("t7,0;c11,12,1,0;", 9, 2);
        faulty("t7,0;c11,0,1,0;", 9, 2);
        faulty("t7,0;c11;", 8, 1);
    }

    /** "B above A". */
    private static void bIsAboveA() {
        due("t7,0;c4,5,1,0;", 1);
        faulty("t7,0;c4,4,1,0;", 8, 2);
        faulty("t7,0;c4,3,1,0;", 8, 2);
        faulty("t7,0;c4,0,1,0;", 8, 2);
        faulty("t7,0;c0,0,1,0;", 8, 2);
    }

    /** "WEIGHT 1 to 20". */
    private static void weightGoesFrom1To20() {
        e.is("1", Expect.read("t7,0;c0,1,1,0;").hammock(0, 2), 1);
        e.is("20", Expect.read("t7,0;c0,1,20,0;").hammock(0, 2), 20);
        faulty("t7,0;c0,1,0,0;", 10, 2);
        faulty("t7,0;c0,1,00,0;", 10, 2);
        faulty("t7,0;c0,1,21,0;", 10, 2);
    }

    /** "SWING 0 to 5". */
    private static void swingGoesFrom0To5() {
        e.is("0", Expect.read("t7,0;c0,1,1,0;").hammock(0, 3), 0);
        e.is("5", Expect.read("t7,0;c0,1,1,5;").hammock(0, 3), 5);
        faulty("t7,0;c0,1,1,6;", 12, 2);
        faulty("t7,0;c0,1,1,10;", 12, 2);
    }

    /** "HAMMOCKS 0 .. 5, 6 at most"; "law { hammock }". */
    private static void hammocksAre0To6() {
        due("t5,0;", 0);
        for (int n = 1; n <= 6; n++) {
            String some = SIX.substring(0, 5 + 9 * n);
            due(some, n);
            HammockReach x = Expect.read(some);
            e.is("the last", x.kind(n - 1), n == 6 ? 1 : n);
            e.is("one beyond", x.kind(n), Expect.BAD);
        }
    }

    /** "3 a hammock more than there is room for (its letter)". */
    private static void aSeventhIsTooMany() {
        for (char sort : "csvro".toCharArray()) {
            faulty(SIX + sort + "0,1,1,0;", 59, 3);
            faulty(SIX + sort, 59, 3);
            faulty(SIX + sort + "99,,", 59, 3);
        }
        faulty(SIX + "c0,1,1,0;c0,1,1,0;", 59, 3);
    }

    /** "the end: how many bytes there are"; of no byte 0. */
    private static void theEmptyTapeHasAFault() {
        faulty("", 0, 1);
        HammockReach x = Expect.read("t9,3;c1,3,4,2;");
        e.is("read again", x.forest(), -1000100);
        e.is("its number", x.fault(), 1);
        e.is("the one before stands", x.count(1), 1);
    }

    private static void anEndTooSoon() {
        String text = "t9,2;c0,1,5,2;o3,4,1,0;";
        for (int n = 0; n < text.length(); n++) {
            if (n == 5 || n == 14) {
                due(text.substring(0, n), n / 9);
            } else {
                faulty(text.substring(0, n), n, 1);
            }
        }
        due(text, 2);
        faulty("t12", 3, 1);
        faulty("t12,2;c10,11,20", 15, 1);
    }

    /** "or is none (a run of three figures, at its first)". */
    private static void aRunOfThreeFigures() {
        faulty("t000,0;", 1, 1);
        faulty("t0000,0;", 1, 1);
        faulty("t123", 1, 1);
        faulty("t7,001;", 3, 1);
        faulty("t7,0;c001,2,1,0;", 6, 1);
        faulty("t7,0;c1,002,1,0;", 8, 1);
        faulty("t7,0;c1,2,001,0;", 10, 1);
        faulty("t7,0;c1,2,1,000;", 12, 1);
        faulty("123", 0, 1);
        faulty("t7,0;123", 5, 1);
        // So long that it would wrap around to a number that is as told.
        faulty("t4294967297,0;", 1, 1);
        faulty("t18446744073709551617,0;", 1, 1);
    }

    /** "NUMBERS (figures, 2 at most)". */
    private static void aRunOfTwoFigures() {
        HammockReach x = Expect.read("t00,00;c00,01,01,00;o09,10,09,05;");
        e.is("01", x.hammock(0, 1), 1);
        e.is("09", x.hammock(1, 0), 9);
        e.is("10", x.hammock(1, 1), 10);
        e.is("SWING 05", x.hammock(1, 3), 5);
    }

    /** "nothing else, no blanks". */
    private static void whatIsNoToken() {
        for (int letter : new int[] {0, 9, 10, 13, 32, 45, 46, 58, 65, 67, 84, 95, 96, 123, 127, 128, 160, 200, 244, 255}) {
            String sign = String.valueOf((char) letter);
            faulty(sign + "t7,0;", 0, 1);
            faulty("t" + sign + "7,0;", 1, 1);
            faulty("t7" + sign + ",0;", 2, 1);
            faulty("t7," + sign + "0;", 3, 1);
            faulty("t7,0" + sign + ";", 4, 1);
            faulty("t7,0;" + sign, 5, 1);
            faulty("t7,0;c" + sign + "0,1,1,0;", 6, 1);
            faulty("t7,0;c0,1,1,0;" + sign + "c0,1,1,0;", 14, 1);
        }
    }

    private static void whatIsNextToAFigureOrASort() {
        for (char sign : "/:".toCharArray()) {
            faulty("t" + sign + ",0;", 1, 1);
            faulty("t1" + sign + ",0;", 2, 1);
            faulty("t" + sign + "1,0;", 1, 1);
        }
        for (char letter = 'a'; letter <= 'z'; letter++) {
            if ("csvro".indexOf(letter) < 0) {
                faulty("t7,0;" + letter + "0,1,1,0;", 5, 1);
            }
            if (letter != 't') {
                faulty(letter + "7,0;", 0, 1);
            }
        }
    }

    /** "1 it cannot stand there": each kind of token in the place of each. */
    private static void eachTokenStandsWhereItCan() {
        // Each token is of one byte, so that its number is its place.
        String[] tokens = {"t", "7", ",", "0", ";", "c", "0", ",", "1", ",", "1", ",", "0", ";"};
        String[] others = {"t", "c", "a", "1", ",", ";"};
        for (int i = 0; i < tokens.length; i++) {
            for (String other : others) {
                boolean number = Character.isDigit(tokens[i].charAt(0));
                if (other.equals(tokens[i]) || number && other.equals("1")) {
                    continue;
                }
                // A figure in place of a sign behind a number makes a longer run; it is left out.
                if (other.equals("1") && i > 0 && Character.isDigit(tokens[i - 1].charAt(0))) {
                    continue;
                }
                String[] text = tokens.clone();
                text[i] = other;
                faulty(String.join("", text), i, 1);
            }
        }
    }

    private static void nothingStandsBehindTheLast() {
        faulty("t7,0;t7,0;", 5, 1);
        faulty("t7,0;;", 5, 1);
        faulty("t7,0;,", 5, 1);
        faulty("t7,0;5", 5, 1);
        faulty(SIX + "t", 59, 1);
        faulty(SIX + ";", 59, 1);
        faulty(SIX + "5", 59, 1);
        faulty(SIX + "\0", 59, 1);
    }

    /** "of one TOKEN the least". */
    private static void ofOneTokenTheLeast() {
        // Neither stands there, nor is it as told, nor is there room.
        faulty("99,0;", 0, 1);
        faulty("t7,0;99", 5, 1);
        faulty("t999,0;", 1, 1);
        faulty("t7,0;c0,1,999,0;", 10, 1);
        faulty(SIX + "99", 59, 1);
        faulty(SIX + "a", 59, 1);
        faulty(SIX + "999", 59, 1);
    }

    /** "FAULTS, the first TOKEN that has one (its first byte)". */
    private static void theFirstTokenThatHasOne() {
        faulty("t41,6;c12,12,0,6;", 1, 2);
        faulty("t40,6;c12,12,0,6;", 4, 2);
        faulty("t40,5;c12,12,0,6;", 7, 2);
        faulty("t40,5;c10,10,0,6;", 10, 2);
        faulty("t40,5;c10,11,0,6;", 13, 2);
        faulty("t40,5;c10,11,1,6;", 15, 2);
        faulty("t41 ", 1, 2);
        faulty("t40 41", 3, 1);
        faulty("t41,123;", 1, 2);
        // The fault of a hammock within the six comes ahead of the seventh.
        faulty(SIX.substring(0, 57) + "6;c0,1,1,0;", 57, 2);
    }

    /** "The number of the latest FAULT; 0 before one." */
    private static void faultIs0BeforeOne() {
        HammockReach x = new HammockReach();
        e.is("at first", x.fault(), 0);
        Expect.feedAll(x, "t9,1;");
        e.is("fed", x.fault(), 0);
        x.forest();
        e.is("read", x.fault(), 0);
        Expect.feedAll(x, "t99,1;");
        e.is("fed, not read", x.fault(), 0);
        x.forest();
        e.is("read with a fault", x.fault(), 2);
        x.forest();
        e.is("the latest", x.fault(), 1);
        Expect.feedAll(x, "t9,1;");
        x.forest();
        e.is("read without", x.fault(), 1);
        HammockReach y = new HammockReach();
        Expect.feedAll(y, SIX + "c");
        y.forest();
        e.is("3", y.fault(), 3);
    }

    /** "A FOREST that is read stands in place of the one before". */
    private static void fewerStandInPlaceOfMore() {
        HammockReach x = Expect.read(SIX);
        x.cord(5, 1);
        x.cord(0, 1);
        Expect.feedAll(x, "t8,1;o2,3,4,5;");
        e.is("one", x.forest(), 1);
        e.is("its own", x.hammock(0, 0), 2);
        e.is("not CUT", x.hammock(0, 4), 0);
        e.is("none CUT", x.count(5), 0);
        for (int h = 1; h < 6; h++) {
            e.is("none more", x.kind(h), Expect.BAD);
        }
        e.is("none more DOWN", x.down(0), 0);
        e.is("nor in reach", x.reach(0, 0), 0);
        Expect.feedAll(x, SIX);
        e.is("six again", x.forest(), 6);
        e.is("not CUT", x.hammock(5, 4), 0);
    }

    /** "MINUTE 0, no cord is CUT", whatever was tried before on the one before. */
    private static void minute0BehindWhatWasForetold() {
        HammockReach x = Expect.read(SIX);
        x.minutes(13);
        x.cord(5, 1);
        x.cord(0, 1);
        x.row(0, 0, 1);
        x.toSling(1, 2, 3, 0);
        x.fits(1, 0, 0, 1, 0);
        Expect.feedAll(x, "t41");
        x.forest();
        e.is("a fault leaves the MINUTE", x.count(2), 13);
        e.is("and the cords", x.count(5), 2);
        Expect.feedAll(x, "t40,1;c0,1,1,5;v0,1,1,5;");
        e.is("read", x.forest(), 2);
        e.is("MINUTE", x.count(2), 0);
        e.is("CUT", x.count(5), 0);
        e.is("DOWN", x.down(0), 0);
        e.is("WHERE", x.hammock(0, 6), 1);
        e.is("DIP", x.hammock(1, 5), 1);
    }

    /** "all but the tape, that is empty then, and what fault() tells stays". */
    private static void aFaultLeavesAllButTheTape() {
        HammockReach x = Expect.read("t9,3;c1,3,4,2;");
        x.minutes(24);
        x.load(0, 5);
        x.image(1);
        x.row(3, 2, 4);
        x.set(3, 4, 0);
        x.ask(0, 1);
        // A fault in the last byte: all of it was as told.
        Expect.feedAll(x, SIX.substring(0, SIX.length() - 1));
        e.is("fault", x.forest(), -1000100 - 58);
        int[] due = {1, 1, 24, 9, 3, 0, 24, 0};
        for (int what = 0; what < 8; what++) {
            e.is("count(" + what + ")", x.count(what), due[what]);
        }
        int[] told = {1, 3, 5, 2, 0, 6, 4};
        for (int what = 0; what < 7; what++) {
            e.is("hammock(0, " + what + ")", x.hammock(0, what), told[what]);
        }
        e.is("status stays", x.status(), 2);
        e.is("THE TRACE stays", x.trace(0), 21);
        e.is("an ACT can be undone", x.undo(), 23);
        e.is("it is", x.hammock(0, 2), 4);
        e.is("an IMAGE stays", x.restore(1), 1);
        e.is("no second one", x.restore(0), Expect.STATE);
    }

    private static void aForestOfNone() {
        HammockReach x = Expect.read("t0,0;");
        e.is("down", x.down(60), 0);
        e.is("down 61", x.down(61), Expect.BAD);
        e.is("minutes", x.minutes(24), 0);
        e.is("minutes 25", x.minutes(25), Expect.BAD);
        e.is("undo", x.undo(), 23);
        e.is("image", x.image(0), 1);
        e.is("restore", x.restore(0), 1);
        e.is("MINUTE", x.count(2), 23);
        e.is("HAMMOCKS", x.count(1), 0);
        int[] answers = {x.hammock(0, 0), x.kind(0), x.as(0, 0), x.ask(0, 0), x.ahead(0, 0, 0), x.reach(0, 0),
            x.soonest(0, 0), x.hands(0, 0), x.everywhere(0, 0), x.meet(0, 1), x.stops(0, 1, 0), x.toSling(0, 1, 2, 0),
            x.breaks(0, 0, 0, 0, 0), x.sling(0, 0, 1), x.load(0, 1), x.cord(0, 1)};
        for (int answer : answers) {
            e.is("no HAMMOCK", answer, Expect.BAD);
        }
    }

    private static void due(String text, int hammocks) {
        HammockReach x = new HammockReach();
        Expect.feedAll(x, text);
        e.is(text + " forest()", x.forest(), hammocks);
        e.is(text + " fault()", x.fault(), 0);
        e.is(text + " tape", x.count(7), 0);
    }

    private static void faulty(String text, int place, int number) {
        HammockReach x = new HammockReach();
        Expect.feedAll(x, text);
        e.is(text + " forest()", x.forest(), -1000100 - place);
        e.is(text + " fault()", x.fault(), number);
        e.is(text + " tape", x.count(7), 0);
        e.is(text + " no forest", x.image(0), Expect.STATE);
    }
}
