import java.util.ArrayList;
import java.util.Collections;
import java.util.List;
import java.util.function.Supplier;
import java.util.function.ToIntFunction;

/**
 * "What is refused, or found, changes nothing but status()"; "FORETOLD (nothing changes)". Of two objects
 * alike one is asked besides; then both are asked for all that can be told, and have to answer alike.
 */
public final class RefusedTest {
    private static final int MOST = Integer.MAX_VALUE, LEAST = Integer.MIN_VALUE;
    private static final Expect e = new Expect();

    /** A call, and what is due. */
    private record Asked(String name, int due, ToIntFunction<HammockReach> call) { }

    public static void main(String[] args) {
        List<Asked> bad = new ArrayList<>();
        badRows(bad);
        badActs(bad);
        badForetold(bad);
        badAsks(bad);
        for (Asked asked : bad) {
            leaves(asked, RefusedTest::lived);
        }
        List<Asked> found = new ArrayList<>();
        findings(found);
        for (Asked asked : found) {
            leaves(asked, RefusedTest::lived);
        }
        for (Asked asked : ofNoForest()) {
            leaves(asked, RefusedTest::unread);
        }
        for (Asked asked : ofAFullOne()) {
            leaves(asked, RefusedTest::full);
        }
        for (Asked asked : answered()) {
            leaves(asked, RefusedTest::lived);
        }
        faultsLeaveAllButTheTape();
        fitsLeavesAllButStatus();
        e.end();
    }

    private static void badRows(List<Asked> bad) {
        for (int row : new int[] {-1, 8, LEAST, MOST}) {
            bad.add(new Asked("row(" + row + ", 0, 1)", Expect.BAD, x -> x.row(row, 0, 1)));
            bad.add(new Asked("set(" + row + ", 0, 1)", Expect.BAD, x -> x.set(row, 0, 1)));
            bad.add(new Asked("copy(" + row + ", 0, 0, 0, 1)", Expect.BAD, x -> x.copy(row, 0, 0, 0, 1)));
            bad.add(new Asked("copy(0, 0, " + row + ", 0, 1)", Expect.BAD, x -> x.copy(0, 0, row, 0, 1)));
            bad.add(new Asked("drop(" + row + ")", Expect.BAD, x -> x.drop(row)));
            bad.add(new Asked("fits(0, " + row + ", 0, 1, 0)", Expect.BAD, x -> x.fits(0, row, 0, 1, 0)));
        }
        bad.add(new Asked("row(0, 3, 2)", Expect.BAD, x -> x.row(0, 3, 2)));
        bad.add(new Asked("row(0, -1, 2)", Expect.BAD, x -> x.row(0, -1, 2)));
        bad.add(new Asked("row(0, 0, 41)", Expect.BAD, x -> x.row(0, 0, 41)));
        bad.add(new Asked("row(3, 3, -1)", Expect.BAD, x -> x.row(3, 3, -1)));
        bad.add(new Asked("fits(0, 0, 0, 0, 0)", Expect.BAD, x -> x.fits(0, 0, 0, 0, 0)));
        bad.add(new Asked("fits(0, 0, 0, 17, 1)", Expect.BAD, x -> x.fits(0, 0, 0, 17, 1)));
        bad.add(new Asked("fits(0, 0, 0, 3, 3)", Expect.BAD, x -> x.fits(0, 0, 0, 3, 3)));
        bad.add(new Asked("fits(0, 3, 0, 3, -1)", Expect.BAD, x -> x.fits(0, 3, 0, 3, -1)));
    }

    private static void badActs(List<Asked> bad) {
        for (int n : new int[] {-1, 256, LEAST, MOST}) {
            bad.add(new Asked("feed(" + n + ")", Expect.BAD, x -> x.feed(n)));
            bad.add(new Asked("minutes(" + n + ")", Expect.BAD, x -> x.minutes(n)));
            bad.add(new Asked("load(0, " + n + ")", Expect.BAD, x -> x.load(0, n)));
            bad.add(new Asked("cord(0, " + n + ")", Expect.BAD, x -> x.cord(0, n)));
            bad.add(new Asked("hammock(0, " + n + ")", Expect.BAD, x -> x.hammock(0, n)));
            bad.add(new Asked("image(" + n + ")", Expect.BAD, x -> x.image(n)));
            bad.add(new Asked("restore(" + n + ")", Expect.BAD, x -> x.restore(n)));
            bad.add(new Asked("count(" + n + ")", Expect.BAD, x -> x.count(n)));
        }
        bad.add(new Asked("minutes(0)", Expect.BAD, x -> x.minutes(0)));
        bad.add(new Asked("minutes(25)", Expect.BAD, x -> x.minutes(25)));
        bad.add(new Asked("load(0, 0)", Expect.BAD, x -> x.load(0, 0)));
        bad.add(new Asked("load(0, 21)", Expect.BAD, x -> x.load(0, 21)));
        bad.add(new Asked("image(2)", Expect.BAD, x -> x.image(2)));
        bad.add(new Asked("restore(2)", Expect.BAD, x -> x.restore(2)));
        int[][] trees = {{-1, 3}, {3, 12}, {3, 3}, {4, 3}, {11, 12}, {LEAST, MOST}};
        for (int[] pair : trees) {
            bad.add(new Asked("sling(0, " + pair[0] + ", " + pair[1] + ")", Expect.BAD, x -> x.sling(0, pair[0], pair[1])));
        }
        for (int h : new int[] {-1, 5, 6, LEAST, MOST}) {
            bad.add(new Asked("sling(" + h + ", 0, 1)", Expect.BAD, x -> x.sling(h, 0, 1)));
            bad.add(new Asked("load(" + h + ", 1)", Expect.BAD, x -> x.load(h, 1)));
            bad.add(new Asked("cord(" + h + ", 1)", Expect.BAD, x -> x.cord(h, 1)));
            bad.add(new Asked("hammock(" + h + ", 0)", Expect.BAD, x -> x.hammock(h, 0)));
        }
        bad.add(new Asked("sling as it is", Expect.STATE, x -> x.sling(0, 0, 3)));
        bad.add(new Asked("cut as it is", Expect.STATE, x -> x.cord(3, 1)));
        bad.add(new Asked("tied as it is", Expect.STATE, x -> x.cord(0, 0)));
        bad.add(new Asked("restore none", Expect.STATE, x -> x.restore(1)));
    }

    private static void badForetold(List<Asked> bad) {
        for (int d : new int[] {-1, 61, LEAST, MOST}) {
            bad.add(new Asked("ahead(0, " + d + ", 0)", Expect.BAD, x -> x.ahead(0, d, 0)));
            bad.add(new Asked("down(" + d + ")", Expect.BAD, x -> x.down(d)));
            bad.add(new Asked("reach(0, " + d + ")", Expect.BAD, x -> x.reach(0, d)));
            bad.add(new Asked("everywhere(0, " + d + ")", Expect.BAD, x -> x.everywhere(0, d)));
            bad.add(new Asked("stops(0, 1, " + d + ")", Expect.BAD, x -> x.stops(0, 1, d)));
            bad.add(new Asked("breaks(0, 1, " + d + ", 5, 0)", Expect.BAD, x -> x.breaks(0, 1, d, 5, 0)));
            bad.add(new Asked("ahead(0, 0, " + d + ")", Expect.BAD, x -> x.ahead(0, 0, d)));
            bad.add(new Asked("toSling(0, 1, 2, " + d + ")", Expect.BAD, x -> x.toSling(0, 1, 2, d)));
            bad.add(new Asked("breaks(0, 1, 60, " + d + ", 0)", Expect.BAD, x -> x.breaks(0, 1, 60, d, 0)));
            bad.add(new Asked("breaks(0, 1, 60, 5, " + d + ")", Expect.BAD, x -> x.breaks(0, 1, 60, 5, d)));
        }
        for (int h : new int[] {-1, 5, 6, LEAST, MOST}) {
            bad.add(new Asked("ahead(" + h + ", 0, 0)", Expect.BAD, x -> x.ahead(h, 0, 0)));
            bad.add(new Asked("reach(" + h + ", 0)", Expect.BAD, x -> x.reach(h, 0)));
            bad.add(new Asked("meet(" + h + ", 0)", Expect.BAD, x -> x.meet(h, 0)));
            bad.add(new Asked("meet(0, " + h + ")", Expect.BAD, x -> x.meet(0, h)));
            bad.add(new Asked("soonest(" + h + ", 0)", Expect.BAD, x -> x.soonest(h, 0)));
            bad.add(new Asked("soonest(0, " + h + ")", Expect.BAD, x -> x.soonest(0, h)));
            bad.add(new Asked("hands(" + h + ", 0)", Expect.BAD, x -> x.hands(h, 0)));
            bad.add(new Asked("hands(0, " + h + ")", Expect.BAD, x -> x.hands(0, h)));
            bad.add(new Asked("everywhere(" + h + ", 0)", Expect.BAD, x -> x.everywhere(h, 0)));
            bad.add(new Asked("stops(" + h + ", 0, 9)", Expect.BAD, x -> x.stops(h, 0, 9)));
            bad.add(new Asked("stops(0, " + h + ", 9)", Expect.BAD, x -> x.stops(0, h, 9)));
            bad.add(new Asked("toSling(" + h + ", 0, 1, 0)", Expect.BAD, x -> x.toSling(h, 0, 1, 0)));
            bad.add(new Asked("toSling(0, " + h + ", 1, 0)", Expect.BAD, x -> x.toSling(0, h, 1, 0)));
            bad.add(new Asked("toSling(0, 1, " + h + ", 0)", Expect.BAD, x -> x.toSling(0, 1, h, 0)));
            bad.add(new Asked("fits(" + h + ", 0, 0, 1, 0)", Expect.BAD, x -> x.fits(h, 0, 0, 1, 0)));
            bad.add(new Asked("breaks(" + h + ", 0, 9, 5, 0)", Expect.BAD, x -> x.breaks(h, 0, 9, 5, 0)));
            bad.add(new Asked("breaks(0, " + h + ", 9, 5, 0)", Expect.BAD, x -> x.breaks(0, h, 9, 5, 0)));
        }
        bad.add(new Asked("meet alike", Expect.BAD, x -> x.meet(1, 1)));
        bad.add(new Asked("stops alike", Expect.BAD, x -> x.stops(1, 1, 9)));
        bad.add(new Asked("toSling alike", Expect.BAD, x -> x.toSling(1, 1, 2, 0)));
    }

    private static void badAsks(List<Asked> bad) {
        for (int h : new int[] {-1, 5, 6, LEAST, MOST}) {
            bad.add(new Asked("kind(" + h + ")", Expect.BAD, x -> x.kind(h)));
            bad.add(new Asked("as(" + h + ", 0)", Expect.BAD, x -> x.as(h, 0)));
            bad.add(new Asked("ask(" + h + ", 0)", Expect.BAD, x -> x.ask(h, 0)));
            bad.add(new Asked("trace(" + h + ")", Expect.NONE, x -> x.trace(h)));
        }
        for (int kind : new int[] {-1, 6, LEAST, MOST}) {
            bad.add(new Asked("as(0, " + kind + ")", Expect.BAD, x -> x.as(0, kind)));
            bad.add(new Asked("ask(0, " + kind + ")", Expect.BAD, x -> x.ask(0, kind)));
        }
    }

    private static void findings(List<Asked> found) {
        found.add(new Asked("a SIZE", Expect.NO_SIZE, x -> x.row(0, 2, -1)));
        found.add(new Asked("a SIZE of a missing ROW", Expect.NO_SIZE, x -> x.row(3, 2, LEAST)));
        found.add(new Asked("set NULL", Expect.NO_ROW, x -> x.set(3, 0, 1)));
        found.add(new Asked("set PLACE 3", Expect.NO_PLACE, x -> x.set(0, 3, 1)));
        found.add(new Asked("set PLACE -1", Expect.NO_PLACE, x -> x.set(0, -1, 1)));
        found.add(new Asked("copy from NULL", Expect.NO_ROW, x -> x.copy(3, 0, 0, 0, 3)));
        found.add(new Asked("copy to NULL", Expect.NO_ROW, x -> x.copy(0, 0, 3, 0, 3)));
        found.add(new Asked("copy STORE", Expect.NO_STORE, x -> x.copy(1, 0, 0, 0, 1)));
        found.add(new Asked("copy PLACE i", Expect.NO_PLACE, x -> x.copy(0, 1, 0, 0, 3)));
        found.add(new Asked("copy PLACE j", Expect.NO_PLACE, x -> x.copy(0, 0, 0, 1, 3)));
        found.add(new Asked("copy PLACE n", Expect.NO_PLACE, x -> x.copy(0, 0, 0, 1, -1)));
        found.add(new Asked("drop NULL", Expect.NO_ROW, x -> x.drop(3)));
        found.add(new Asked("fits NULL", Expect.NO_ROW, x -> x.fits(0, 3, 0, 1, 0)));
        found.add(new Asked("fits PLACE", Expect.NO_PLACE, x -> x.fits(0, 0, 1, 3, 2)));
        found.add(new Asked("as KIND", Expect.NO_KIND, x -> x.as(0, 5)));
    }

    private static List<Asked> ofNoForest() {
        List<Asked> refused = new ArrayList<>();
        refused.add(new Asked("minutes", Expect.STATE, x -> x.minutes(1)));
        refused.add(new Asked("minutes 0", Expect.STATE, x -> x.minutes(0)));
        refused.add(new Asked("down", Expect.STATE, x -> x.down(0)));
        refused.add(new Asked("down 61", Expect.STATE, x -> x.down(61)));
        refused.add(new Asked("undo", Expect.STATE, x -> x.undo()));
        refused.add(new Asked("image", Expect.STATE, x -> x.image(0)));
        refused.add(new Asked("image 2", Expect.BAD, x -> x.image(2)));
        refused.add(new Asked("restore", Expect.STATE, x -> x.restore(0)));
        refused.add(new Asked("restore 2", Expect.BAD, x -> x.restore(2)));
        refused.add(new Asked("sling", Expect.BAD, x -> x.sling(0, 0, 1)));
        refused.add(new Asked("load", Expect.BAD, x -> x.load(0, 1)));
        refused.add(new Asked("cord", Expect.BAD, x -> x.cord(0, 1)));
        refused.add(new Asked("fits", Expect.BAD, x -> x.fits(0, 0, 0, 1, 0)));
        refused.add(new Asked("as", Expect.BAD, x -> x.as(0, 0)));
        refused.add(new Asked("ask", Expect.BAD, x -> x.ask(0, 0)));
        return refused;
    }

    private static List<Asked> ofAFullOne() {
        List<Asked> refused = new ArrayList<>();
        refused.add(new Asked("the 121st byte", Expect.FULL, x -> x.feed('t')));
        refused.add(new Asked("no byte", Expect.BAD, x -> x.feed(256)));
        refused.add(new Asked("a MINUTE", Expect.FULL, x -> x.minutes(1)));
        refused.add(new Asked("24 MINUTES", Expect.FULL, x -> x.minutes(24)));
        refused.add(new Asked("25 MINUTES", Expect.BAD, x -> x.minutes(25)));
        refused.add(new Asked("a 41st ITEM", Expect.BAD, x -> x.row(0, 0, 41)));
        refused.add(new Asked("sling as it is", Expect.STATE, x -> x.sling(0, 0, 1)));
        refused.add(new Asked("tied as it is", Expect.STATE, x -> x.cord(0, 0)));
        return refused;
    }

    /** What changes nothing, though it answers: what is foretold, and what only tells. */
    private static List<Asked> answered() {
        List<Asked> asked = new ArrayList<>();
        asked.add(new Asked("ahead", 1, x -> x.ahead(0, 60, 0)));
        asked.add(new Asked("ahead, DIP", 12, x -> x.ahead(2, 60, 1)));
        asked.add(new Asked("down", 8, x -> x.down(60)));
        asked.add(new Asked("reach", 0, x -> x.reach(2, 7)));
        asked.add(new Asked("meet", 4, x -> x.meet(0, 1)));
        asked.add(new Asked("soonest", 5, x -> x.soonest(0, 1)));
        asked.add(new Asked("hands", 1, x -> x.hands(0, 1)));
        asked.add(new Asked("everywhere", 7, x -> x.everywhere(0, 60)));
        asked.add(new Asked("stops", 0, x -> x.stops(0, 1, 60)));
        asked.add(new Asked("toSling", 1, x -> x.toSling(2, 0, 1, 1) > 1 ? 1 : 0));
        asked.add(new Asked("toSling, trees", 1, x -> x.toSling(1, 0, 2, 0) > 0 ? 1 : 0));
        asked.add(new Asked("breaks", 1, x -> x.breaks(0, 1, 60, 5, 0) > 0 ? 1 : 0));
        asked.add(new Asked("breaks of 10", 0, x -> x.breaks(0, 1, 60, 10, 0)));
        asked.add(new Asked("hammock", 3, x -> x.hammock(0, 1)));
        asked.add(new Asked("kind", 3, x -> x.kind(2)));
        asked.add(new Asked("trace", 23, x -> x.trace(0)));
        asked.add(new Asked("count", 3, x -> x.count(2)));
        asked.add(new Asked("status", 3, x -> x.status()));
        asked.add(new Asked("fault", 2, x -> x.fault()));
        return asked;
    }

    /** "all but the tape, that is empty then, and what fault() tells stays". */
    private static void faultsLeaveAllButTheTape() {
        // Each has the fault 2, as the one before, so that fault() tells the same.
        String[] texts = {"41,1;", "1,6;", "9,5;c0,3,5,2;s5,5,9,3;", "9,5;c0,3,5,6"};
        for (String text : texts) {
            HammockReach x = lived();
            HammockReach y = lived();
            Expect.feedAll(x, text);
            Expect.feedAll(y, "2,6;");
            e.is(text, x.forest() <= -1000100 ? 1 : 0, 1);
            e.is("on " + text, y.forest() <= -1000100 ? 1 : 0, 1);
            e.is("status", x.status(), 3);
            alike(text, told(x), told(y));
        }
    }

    private static void fitsLeavesAllButStatus() {
        for (int what = 0; what < 3; what++) {
            HammockReach x = lived();
            HammockReach y = lived();
            e.is("as", y.as(0, 0), 0);
            e.is("fits", x.fits(1, 0, 0, 3, what), 0);
            e.is("status", x.status(), 0);
            alike("fits(1, 0, 0, 3, " + what + ")", told(x), told(y));
        }
    }

    /** Of findings status() tells the number, else what it told. */
    private static void leaves(Asked asked, Supplier<HammockReach> life) {
        HammockReach x = life.get();
        HammockReach y = life.get();
        int status = x.status();
        e.is(asked.name(), asked.call().applyAsInt(x), asked.due());
        boolean found = asked.due() <= -1000011 && asked.due() >= -1000015;
        e.is("status() behind " + asked.name(), x.status(), found ? -1000010 - asked.due() : status);
        alike(asked.name(), told(x), told(y));
    }

    private static void alike(String name, List<Integer> is, List<Integer> due) {
        e.is("answers behind " + name, is.size(), due.size());
        for (int i = 0; i < is.size() && i < due.size(); i++) {
            e.is("answer " + i + " behind " + name, is.get(i), due.get(i));
        }
    }

    // ---- lives

    /** Rows 0 to 2 tell where hammocks 0 and 2, and whom 4 is in reach of, from MINUTE 3 on; 7 is of none. */
    private static HammockReach lived() {
        HammockReach x = new HammockReach();
        Expect.feedAll(x, "t9,2;c0,1,21");
        x.forest();
        Expect.feedAll(x, "t12,1;c0,3,5,2;s2,6,9,3;v5,8,4,1;r7,10,2,0;o9,11,3,2;");
        x.forest();
        x.minutes(2);
        x.image(0);
        x.sling(1, 1, 3);
        x.load(2, 5);
        x.cord(3, 1);
        x.minutes(1);
        for (int row = 0; row < 3; row++) {
            x.row(row, row, 3);
            for (int k = 0; k < 3; k++) {
                x.set(row, k, row < 2 ? x.ahead(2 * row, k, 0) : x.reach(4, k));
            }
        }
        x.row(7, 1, 0);
        x.feed('t');
        x.ask(3, 1);
        x.as(0, 2);
        return x;
    }

    private static HammockReach unread() {
        HammockReach x = new HammockReach();
        Expect.feedAll(x, "t41,1;");
        x.forest();
        x.row(0, 0, 2);
        x.set(3, 0, 0);
        x.feed('t');
        return x;
    }

    private static HammockReach full() {
        HammockReach x = Expect.read("t40,5;v0,1,1,5;");
        x.image(1);
        for (int i = 0; i < 41; i++) {
            x.minutes(24);
        }
        x.load(0, 3);
        x.minutes(15);
        x.row(0, 0, 40);
        x.set(0, 40, 1);
        for (int i = 0; i < 120; i++) {
            x.feed('t');
        }
        return x;
    }

    // ---- all that can be told

    /** But status(), which what is found changes. */
    private static List<Integer> told(HammockReach x) {
        List<Integer> all = new ArrayList<>();
        all.add(x.fault());
        for (int i = -1; i < 8; i++) {
            Collections.addAll(all, x.trace(i), x.count(i));
        }
        tellForest(x, all);
        tellRows(x, all);
        Collections.addAll(all, x.soonest(0, 1), x.hands(0, 4), x.everywhere(0, 60), x.toSling(1, 0, 2, 0), x.breaks(0, 1, 60, 5, 1));
        for (int i = 0; i < 25; i++) {
            Collections.addAll(all, x.undo(), x.count(2));
            if (i < 8) {
                Collections.addAll(all, x.hammock(1, 0), x.hammock(0, 2), x.hammock(3, 4));
            }
        }
        for (int k = 0; k < 2; k++) {
            all.add(x.restore(k));
            tellForest(x, all);
        }
        // Only behind 't' on the tape is this a forest.
        for (char letter : "7,0;o0,1,1,0;".toCharArray()) {
            all.add(x.feed(letter));
        }
        Collections.addAll(all, x.forest(), x.fault());
        tellForest(x, all);
        return all;
    }

    private static void tellForest(HammockReach x, List<Integer> all) {
        for (int h = 0; h < 5; h++) {
            Collections.addAll(all, x.kind(h), x.reach(h, 0));
            for (int what = 0; what < 5; what++) {
                all.add(x.hammock(h, what));
            }
        }
        Collections.addAll(all, x.down(0), x.down(60), x.count(1), x.count(2), x.count(3), x.count(4));
    }

    private static void tellRows(HammockReach x, List<Integer> all) {
        Collections.addAll(all, x.fits(0, 0, 0, 3, 1), x.fits(2, 1, 0, 3, 1), x.fits(4, 2, 0, 3, 2));
        for (int row = 0; row < 4; row++) {
            Collections.addAll(all, x.copy(row, 0, row, 0, 3), x.copy(row, 0, row, 0, 4), x.copy(row, 0, row + 1, 0, 0));
        }
        Collections.addAll(all, x.copy(7, 0, 7, 0, 0), x.copy(7, 0, 7, 0, 1), x.copy(7, 0, 1, 0, 0));
    }
}
