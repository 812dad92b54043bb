import java.util.ArrayList;
import java.util.List;
import java.util.function.ToIntBiFunction;

/**
 * Each call with all that its numbers can come to at the bounds and beyond, in three states, against the
 * Model: nothing is thrown, whatever the numbers are, and each answer is as due.
 */
public final class ExtremesTest {
    private static final int MOST = Integer.MAX_VALUE, LEAST = Integer.MIN_VALUE, TIMES = 150;
    private static final int[] FEW = {LEAST, -1, 0, 1, 3, 6, MOST};
    private static final int[] MANY = {LEAST, LEAST + 1, -41, -16, -1, 0, 1, 2, 4, 5, 6, 7, 8, 10, 11, 12, 16, 17, 20, 21, 24,
        25, 39, 40, 41, 59, 60, 61, 127, 128, 255, 256, 999, 1000, 32768, 65536, MOST - 1, MOST};
    private static final String FOREST = "t12,1;c0,3,5,2;s2,6,9,3;v5,8,4,1;r7,10,2,0;o9,11,3,2;";
    private static final Expect e = new Expect();

    /** A call of the program and of the model, by its numbers. */
    private record Call(String name, int numbers, ToIntBiFunction<HammockReach, int[]> x, ToIntBiFunction<Model, int[]> m) { }

    private HammockReach x;
    private Model m;
    private int times = TIMES;

    public static void main(String[] args) {
        for (int state = 0; state < 3; state++) {
            for (Call call : calls()) {
                new ExtremesTest().sweep(call, state);
            }
        }
        e.end();
    }

    private static List<Call> calls() {
        List<Call> all = new ArrayList<>();
        all.add(new Call("row", 3, (x, n) -> x.row(n[0], n[1], n[2]), (m, n) -> m.row(n[0], n[1], n[2])));
        all.add(new Call("set", 3, (x, n) -> x.set(n[0], n[1], n[2]), (m, n) -> m.set(n[0], n[1], n[2])));
        all.add(new Call("copy", 5, (x, n) -> x.copy(n[0], n[1], n[2], n[3], n[4]), (m, n) -> m.copy(n[0], n[1], n[2], n[3], n[4])));
        all.add(new Call("drop", 1, (x, n) -> x.drop(n[0]), (m, n) -> m.drop(n[0])));
        all.add(new Call("feed", 1, (x, n) -> x.feed(n[0]), (m, n) -> m.feed(n[0])));
        all.add(new Call("minutes", 1, (x, n) -> x.minutes(n[0]), (m, n) -> m.minutes(n[0])));
        all.add(new Call("sling", 3, (x, n) -> x.sling(n[0], n[1], n[2]), (m, n) -> m.sling(n[0], n[1], n[2])));
        all.add(new Call("load", 2, (x, n) -> x.load(n[0], n[1]), (m, n) -> m.load(n[0], n[1])));
        all.add(new Call("cord", 2, (x, n) -> x.cord(n[0], n[1]), (m, n) -> m.cord(n[0], n[1])));
        all.add(new Call("hammock", 2, (x, n) -> x.hammock(n[0], n[1]), (m, n) -> m.hammock(n[0], n[1])));
        all.add(new Call("ahead", 3, (x, n) -> x.ahead(n[0], n[1], n[2]), (m, n) -> m.ahead(n[0], n[1], n[2])));
        all.add(new Call("down", 1, (x, n) -> x.down(n[0]), (m, n) -> m.down(n[0])));
        all.add(new Call("reach", 2, (x, n) -> x.reach(n[0], n[1]), (m, n) -> m.reach(n[0], n[1])));
        all.add(new Call("meet", 2, (x, n) -> x.meet(n[0], n[1]), (m, n) -> m.meet(n[0], n[1])));
        all.add(new Call("soonest", 2, (x, n) -> x.soonest(n[0], n[1]), (m, n) -> m.soonest(n[0], n[1])));
        all.add(new Call("hands", 2, (x, n) -> x.hands(n[0], n[1]), (m, n) -> m.hands(n[0], n[1])));
        all.add(new Call("everywhere", 2, (x, n) -> x.everywhere(n[0], n[1]), (m, n) -> m.everywhere(n[0], n[1])));
        all.add(new Call("stops", 3, (x, n) -> x.stops(n[0], n[1], n[2]), (m, n) -> m.stops(n[0], n[1], n[2])));
        all.add(new Call("toSling", 4, (x, n) -> x.toSling(n[0], n[1], n[2], n[3]), (m, n) -> m.toSling(n[0], n[1], n[2], n[3])));
        all.add(new Call("fits", 5, (x, n) -> x.fits(n[0], n[1], n[2], n[3], n[4]), (m, n) -> m.fits(n[0], n[1], n[2], n[3], n[4])));
        all.add(new Call("breaks", 5, (x, n) -> x.breaks(n[0], n[1], n[2], n[3], n[4]), (m, n) -> m.breaks(n[0], n[1], n[2], n[3], n[4])));
        all.add(new Call("image", 1, (x, n) -> x.image(n[0]), (m, n) -> m.image(n[0])));
        all.add(new Call("restore", 1, (x, n) -> x.restore(n[0]), (m, n) -> m.restore(n[0])));
        all.add(new Call("kind", 1, (x, n) -> x.kind(n[0]), (m, n) -> m.kind(n[0])));
        all.add(new Call("as", 2, (x, n) -> x.as(n[0], n[1]), (m, n) -> m.as(n[0], n[1])));
        all.add(new Call("ask", 2, (x, n) -> x.ask(n[0], n[1]), (m, n) -> m.ask(n[0], n[1])));
        all.add(new Call("trace", 1, (x, n) -> x.trace(n[0]), (m, n) -> m.trace(n[0])));
        all.add(new Call("count", 1, (x, n) -> x.count(n[0]), (m, n) -> m.count(n[0])));
        return all;
    }

    private void sweep(Call call, int state) {
        int[] values = call.numbers() <= 3 ? MANY : FEW;
        int[] numbers = new int[call.numbers()];
        int ways = 1;
        for (int i = 0; i < numbers.length; i++) {
            ways *= values.length;
        }
        for (int way = 0; way < ways; way++) {
            int rest = way;
            for (int i = 0; i < numbers.length; i++) {
                numbers[i] = values[rest % values.length];
                rest /= values.length;
            }
            begin(state);
            String told = "state " + state + ": " + call.name() + java.util.Arrays.toString(numbers);
            e.is(told, call.x().applyAsInt(x, numbers), call.m().applyAsInt(m, numbers));
            e.is("status behind " + told, x.status(), m.status());
        }
    }

    /** No object answers more calls than are promised. */
    private void begin(int state) {
        times++;
        if (times < TIMES) {
            return;
        }
        times = 0;
        x = new HammockReach();
        m = new Model();
        for (int row = 0; row < state * 3; row++) {
            e.is("row", x.row(row, row % 3, 6 * row), m.row(row, row % 3, 6 * row));
        }
        if (state > 0) {
            for (char letter : FOREST.toCharArray()) {
                e.is("feed", x.feed(letter), m.feed(letter));
            }
            e.is("forest", x.forest(), m.forest());
        }
        if (state > 1) {
            e.is("minutes", x.minutes(24), m.minutes(24));
            e.is("cord", x.cord(3, 1), m.cord(3, 1));
            e.is("image", x.image(1), m.image(1));
            e.is("ask", x.ask(1, 0), m.ask(1, 0));
        }
    }
}
