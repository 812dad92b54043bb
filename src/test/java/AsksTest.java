/** Promises 28 to 31, and 33 by as(). */
public final class AsksTest {
    private static final String FOREST =
        "t40,0;r0,1,1,0;c0,5,7,0;s0,5,7,0;v0,5,7,0;r0,5,7,0;o0,5,7,0;";
    private static final Expect e = new Expect();

    public static void main(String[] args) {
        tellsKinds();
        takesAsKinds();
        asksSizes();
        asksMarks();
        asksByWhatIsNow();
        keepsTheTrace();
        e.end();
    }

    private static void tellsKinds() {
        HammockReach x = Expect.read(FOREST);
        int[] due = {4, 1, 2, 3, 4, 5};
        for (int h = 0; h < 6; h++) {
            e.is("kind(" + h + ")", x.kind(h), due[h]);
        }
        e.is("kind(6)", x.kind(6), Expect.BAD);
        e.is("kind(-1)", x.kind(-1), Expect.BAD);
    }

    private static void takesAsKinds() {
        HammockReach x = Expect.read(FOREST);
        // By hammocks 1 to 5, that is by kinds 1 to 5: which kinds each is, as bits.
        int[] is = {0, 3, 7, 11, 17, 49};
        for (int h = 1; h < 6; h++) {
            for (int kind = 0; kind < 6; kind++) {
                boolean such = (is[h] >> kind & 1) == 1;
                e.is("as(" + h + ", " + kind + ")", x.as(h, kind), such ? h : Expect.NO_KIND);
                e.is("status", x.status(), such ? 0 : 3);
            }
        }
        x.as(1, 2);
        e.is("kind 6", x.as(1, 6), Expect.BAD);
        e.is("kind -1", x.as(1, -1), Expect.BAD);
        e.is("hammock 6", x.as(6, 0), Expect.BAD);
        e.is("BAD leaves it", x.status(), 3);
        e.is("it is told as before", x.kind(2), 2);
    }

    private static void asksSizes() {
        HammockReach x = Expect.read(FOREST);
        asked(x, 1, 0, 17, new int[] {11, 10, 21, 20});
        asked(x, 2, 0, -19, new int[] {12, 11, 10, 24, 21, 20});
        asked(x, 3, 0, -981, new int[] {11, 10, 22, 21, 20});
        asked(x, 4, 0, -93, new int[] {13, 10});
        asked(x, 5, 0, -186, new int[] {14, 13, 10});
    }

    private static void asksMarks() {
        HammockReach x = Expect.read(FOREST);
        asked(x, 1, 1, 10, new int[] {21, 20});
        asked(x, 2, 1, 12, new int[] {24, 21, 20});
        asked(x, 3, 1, -988, new int[] {22, 21, 20});
        asked(x, 4, 1, 97, new int[] {23, 20, 13, 10});
        asked(x, 5, 1, 191, new int[] {23, 20, 14, 13, 10});
    }

    private static void asksByWhatIsNow() {
        HammockReach x = Expect.read(FOREST);
        x.minutes(24);
        e.is("a vine dips more", x.ask(3, 1), -986);
        x.load(3, 1);
        e.is("loaded", x.ask(3, 0), 1 + 3 + 1 + 2 + 2 - 1000);
        x.sling(1, 0, 1);
        e.is("slung", x.ask(1, 1), 8);
    }

    private static void keepsTheTrace() {
        HammockReach x = Expect.read(FOREST);
        e.is("empty", x.trace(0), Expect.NONE);
        x.ask(4, 0);
        e.is("what 2", x.ask(4, 2), Expect.BAD);
        e.is("what -1", x.ask(4, -1), Expect.BAD);
        e.is("hammock 6", x.ask(6, 0), Expect.BAD);
        e.is("hammock -1", x.ask(-1, 0), Expect.BAD);
        e.is("it stays", x.trace(0), 13);
        e.is("it stays", x.trace(1), 10);
        e.is("no more", x.trace(2), Expect.NONE);
        e.is("-1", x.trace(-1), Expect.NONE);
        e.is("16", x.trace(16), Expect.NONE);
        e.is("most", x.trace(Integer.MAX_VALUE), Expect.NONE);
    }

    private static void asked(HammockReach x, int h, int what, int due, int[] bodies) {
        String call = "ask(" + h + ", " + what + ")";
        e.is(call, x.ask(h, what), due);
        for (int i = 0; i < bodies.length; i++) {
            e.is(call + " trace(" + i + ")", x.trace(i), bodies[i]);
        }
        e.is(call + " trace ends", x.trace(bodies.length), Expect.NONE);
    }
}
