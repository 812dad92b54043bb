/** Promises 1, 6, 7 and 8. */
public final class TextsTest {
    private static final Expect e = new Expect();

    public static void main(String[] args) {
        startsEmpty();
        feedsBytes();
        readsForests();
        findsFaults();
        keepsTheForestBehindAFault();
        standsInPlaceOfTheOneBefore();
        e.end();
    }

    private static void startsEmpty() {
        HammockReach x = new HammockReach();
        for (int what = 0; what < 8; what++) {
            e.is("count", x.count(what), 0);
        }
        e.is("fault", x.fault(), 0);
        e.is("status", x.status(), 0);
        e.is("undo", x.undo(), Expect.STATE);
        e.is("minutes ahead of BAD", x.minutes(0), Expect.STATE);
        e.is("down ahead of BAD", x.down(61), Expect.STATE);
        e.is("image", x.image(1), Expect.STATE);
        e.is("image 2", x.image(2), Expect.BAD);
        e.is("restore", x.restore(1), Expect.STATE);
        e.is("trace", x.trace(0), Expect.NONE);
        e.is("kind", x.kind(0), Expect.BAD);
    }

    private static void feedsBytes() {
        HammockReach x = new HammockReach();
        e.is("-1", x.feed(-1), Expect.BAD);
        e.is("256", x.feed(256), Expect.BAD);
        for (int i = 0; i < 120; i++) {
            e.is("feed", x.feed(i == 0 ? 255 : 0), i + 1);
        }
        e.is("full", x.feed(0), Expect.FULL);
        e.is("BAD ahead of FULL", x.feed(256), Expect.BAD);
        e.is("count(7)", x.count(7), 120);
        e.is("no token", x.forest(), -1000100);
        e.is("empty then", x.count(7), 0);
        e.is("room again", x.feed(1), 1);
    }

    private static void readsForests() {
        due("t0,0;", 0);
        due("t40,5;", 0);
        due("t05,00;c00,01,01,00;", 1);
        due("t40,5;c0,11,20,5;s0,11,20,5;v10,11,20,5;r0,1,1,0;o3,4,9,1;c0,1,1,1;", 6);
        HammockReach x = Expect.read("t39,4;v03,11,20,5;");
        e.is("HIGH", x.count(3), 39);
        e.is("ARM", x.count(4), 4);
        e.is("A", x.hammock(0, 0), 3);
        e.is("B", x.hammock(0, 1), 11);
        e.is("WEIGHT", x.hammock(0, 2), 20);
        e.is("SWING", x.hammock(0, 3), 5);
        e.is("KIND", x.kind(0), 3);
        e.is("a forest of none stands", Expect.read("t0,0;").minutes(1), 0);
    }

    private static void findsFaults() {
        faulty("", 0, 1);
        faulty("t", 1, 1);
        faulty("T5,0;", 0, 1);
        faulty(" t5,0;", 0, 1);
        faulty("c0,1,1,0;", 0, 1);
        faulty("5", 0, 1);
        faulty("tt", 1, 1);
        faulty("t,", 1, 1);
        faulty("t-1,0;", 1, 1);
        faulty("t005,0;", 1, 1);
        faulty("t400,0;", 1, 1);
        faulty("t0005,0;", 1, 1);
        faulty("t5,00000000000000000000000000000000,", 3, 1);
        faulty("t5,0;c4294967296,", 6, 1);
        faulty("t41,0;", 1, 2);
        faulty("t99,0;", 1, 2);
        faulty("t40", 3, 1);
        faulty("t40;0;", 3, 1);
        faulty("t40,6;", 4, 2);
        faulty("t40,;", 4, 1);
        faulty("t40,5", 5, 1);
        faulty("t40,5,", 5, 1);
        faulty("t40,5;t40,5;", 6, 1);
        faulty("t40,5;;", 6, 1);
        faulty("t40,5;12", 6, 1);
        faulty("t5,0;c", 6, 1);
        faulty("t5,0;c12,", 6, 2);
        faulty("t5,0;c11,12,", 9, 2);
        faulty("t5,0;c5,4,1,0;", 8, 2);
        faulty("t5,0;c5,5,1,0;", 8, 2);
        faulty("t5,0;c5,6,0,0;", 10, 2);
        faulty("t5,0;c5,6,21,0;", 10, 2);
        faulty("t5,0;c5,6,20,6;", 13, 2);
        faulty("t5,0;c5,6,20,5", 14, 1);
        faulty("t5,0;c5,6,20,5,", 14, 1);
        faulty("t5,0;c5,6,20,005;", 13, 1);
        faulty("t5,0;c5,6,20,5;x", 15, 1);
        faulty("t5,0;c5,6,20,5;C", 15, 1);
        faulty("t5,0;cc", 6, 1);
        String six = "t5,0;c0,1,1,0;s0,1,1,0;v0,1,1,0;r0,1,1,0;o0,1,1,0;c0,1,1,0;";
        faulty(six + "o0,1,1,0;", six.length(), 3);
        faulty(six + "o", six.length(), 3);
        faulty(six + "x", six.length(), 1);
        faulty(six + "t", six.length(), 1);
        faulty(six + "0", six.length(), 1);
        faulty(six.substring(0, six.length() - 1), six.length() - 1, 1);
    }

    private static void keepsTheForestBehindAFault() {
        HammockReach x = Expect.read("t9,3;c1,3,4,2;");
        x.minutes(3);
        x.cord(0, 1);
        Expect.feedAll(x, "t8,2;s0,1,1,1;s0,0");
        e.is("fault", x.forest(), -1000100 - 17);
        e.is("its number", x.fault(), 2);
        e.is("HIGH", x.count(3), 9);
        e.is("ARM", x.count(4), 3);
        e.is("HAMMOCKS", x.count(1), 1);
        e.is("MINUTE", x.count(2), 3);
        e.is("CUT", x.count(5), 1);
        e.is("ACTS", x.count(6), 4);
        e.is("B", x.hammock(0, 1), 3);
        e.is("KIND", x.kind(0), 1);
        Expect.feedAll(x, "t8,2;");
        e.is("read", x.forest(), 0);
        e.is("the latest FAULT stays", x.fault(), 2);
        Expect.feedAll(x, "x");
        x.forest();
        e.is("the next FAULT", x.fault(), 1);
    }

    private static void standsInPlaceOfTheOneBefore() {
        HammockReach x = Expect.read("t9,3;c1,3,4,2;");
        x.minutes(3);
        x.cord(0, 1);
        x.row(2, 1, 3);
        x.image(1);
        x.ask(0, 0);
        Expect.feedAll(x, "t7,1;o0,2,5,1;r3,4,5,0;");
        e.is("read", x.forest(), 2);
        e.is("MINUTE", x.count(2), 0);
        e.is("CUT", x.count(5), 0);
        e.is("ACTS", x.count(6), 0);
        e.is("undo", x.undo(), Expect.STATE);
        e.is("ROWS", x.count(0), 1);
        e.is("items stay", x.drop(2), 3);
        e.is("an IMAGE stays", x.restore(1), 1);
        e.is("it is the one before", x.count(2), 3);
        e.is("its cord is CUT", x.count(5), 1);
        e.is("its HIGH", x.count(3), 9);
    }

    private static void due(String text, int hammocks) {
        HammockReach x = new HammockReach();
        Expect.feedAll(x, text);
        e.is(text, x.forest(), hammocks);
        e.is(text + " fault()", x.fault(), 0);
        e.is(text + " tape", x.count(7), 0);
        e.is(text + " count(1)", x.count(1), hammocks);
    }

    private static void faulty(String text, int place, int number) {
        HammockReach x = new HammockReach();
        Expect.feedAll(x, text);
        e.is(text, x.forest(), -1000100 - place);
        e.is(text + " fault()", x.fault(), number);
        e.is(text + " tape", x.count(7), 0);
        e.is(text + " forest", x.down(0), Expect.STATE);
    }
}
