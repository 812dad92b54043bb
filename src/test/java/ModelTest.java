import java.util.Random;

/** Long runs of calls, drawn by fixed seeds, answered by the program and by the Model alike. */
public final class ModelTest {
    /** No object answers more calls than are promised. */
    private static final int RUNS = 600, CALLS = 512, DEAREST = 100;
    private static final String SORTS = "csvro";
    private static final int[] EDGES = {-1, 61, 1000, Integer.MIN_VALUE, Integer.MAX_VALUE, 256, 41, 12};
    private static final Expect e = new Expect();

    private final int seed;
    private final Random random;
    private final HammockReach x = new HammockReach();
    private final Model m = new Model();
    private int calls;

    private ModelTest(int seed) {
        this.seed = seed;
        random = new Random(seed);
    }

    public static void main(String[] args) {
        for (int seed = 0; seed < RUNS; seed++) {
            new ModelTest(seed).run();
        }
        e.end();
    }

    private void run() {
        callFor(random.nextInt(40));
        readForest();
        callFor(random.nextInt(CALLS));
        for (int what = -1; what <= 8; what++) {
            is("count(" + what + ")", x.count(what), m.count(what));
        }
        if (random.nextInt(3) == 0 && calls <= CALLS - 2 * DEAREST) {
            readForest();
        }
        callFor(CALLS);
    }

    private void callFor(int more) {
        int most = Math.min(calls + more, CALLS - DEAREST);
        while (calls < most) {
            call();
        }
    }

    private void is(String call, int got, int want) {
        calls++;
        e.is("seed " + seed + ": " + call, got, want);
    }

    private int below(int n) {
        return random.nextInt(40) == 0 ? EDGES[random.nextInt(EDGES.length)] : random.nextInt(n);
    }

    private int from(int least, int most) {
        return random.nextInt(40) == 0 ? EDGES[random.nextInt(EDGES.length)]
            : least + random.nextInt(most - least + 1);
    }

    private int bed() {
        int n = m.now == null ? 0 : m.now.beds.size();
        return n == 0 || random.nextInt(60) == 0 ? below(8) - 1 : random.nextInt(n);
    }

    private void readForest() {
        int hammocks = random.nextInt(12) == 0 ? random.nextInt(8) : 3 + random.nextInt(4);
        StringBuilder text = new StringBuilder();
        text.append('t').append(2 + random.nextInt(random.nextBoolean() ? 39 : 20)).append(',').append(random.nextInt(6)).append(';');
        for (int h = 0; h < hammocks; h++) {
            int a = random.nextInt(11);
            int b = a + 1 + random.nextInt(11 - a);
            text.append(SORTS.charAt(random.nextInt(5))).append(a).append(',').append(b).append(',');
            text.append(1 + random.nextInt(random.nextBoolean() ? 20 : 8)).append(',').append(random.nextInt(6)).append(';');
        }
        while (random.nextInt(6) == 0 && text.length() > 0) {
            spoil(text);
        }
        for (int i = 0; i < text.length(); i++) {
            is("feed", x.feed(text.charAt(i)), m.feed(text.charAt(i)));
        }
        is("forest of " + text, x.forest(), m.forest());
        is("fault of " + text, x.fault(), m.fault());
        is("count(1)", x.count(1), m.count(1));
    }

    private void spoil(StringBuilder text) {
        int at = random.nextInt(text.length());
        String signs = "0123456789,;tcsvrox T" + (char) 233;
        char sign = signs.charAt(random.nextInt(signs.length()));
        switch (random.nextInt(4)) {
            case 0: text.setCharAt(at, sign); break;
            case 1: text.insert(at, sign); break;
            case 2: text.deleteCharAt(at); break;
            default: text.setLength(at); break;
        }
    }

    private void call() {
        switch (random.nextInt(10)) {
            case 0: callRows(); break;
            case 1: case 2: callActs(); break;
            case 3: callAsks(); break;
            case 4: case 5: callFits(); break;
            case 6: callRest(); break;
            default: callGifts(); break;
        }
        is("status()", x.status(), m.status());
    }

    private void callRows() {
        int r = below(8);
        int s = below(8);
        int i = below(20);
        int j = below(20);
        int n = below(20);
        int lane = below(3);
        int v = random.nextInt();
        switch (random.nextInt(8)) {
            case 0: case 1: is("row(" + r + ", " + lane + ", " + n + ")", x.row(r, lane, n), m.row(r, lane, n)); break;
            case 2: case 3: case 4: is("set(" + r + ", " + i + ", " + v + ")", x.set(r, i, v), m.set(r, i, v)); break;
            case 5: case 6: is("copy(" + r + ", " + i + ", " + s + ", " + j + ", " + n + ")",
                x.copy(r, i, s, j, n), m.copy(r, i, s, j, n)); break;
            default: is("drop(" + r + ")", x.drop(r), m.drop(r)); break;
        }
    }

    private void callActs() {
        int h = bed();
        int a = below(11);
        int b = below(12);
        int n = from(1, random.nextBoolean() ? 3 : 24);
        int w = from(1, random.nextBoolean() ? 4 : 20);
        int cut = below(2);
        switch (random.nextInt(8)) {
            case 0: is("minutes(" + n + ")", x.minutes(n), m.minutes(n)); break;
            case 1: case 2: is("sling(" + h + ", " + a + ", " + b + ")", x.sling(h, a, b), m.sling(h, a, b)); break;
            case 3: case 4: is("load(" + h + ", " + w + ")", x.load(h, w), m.load(h, w)); break;
            case 5: is("cord(" + h + ", " + cut + ")", x.cord(h, cut), m.cord(h, cut)); break;
            default: is("undo()", x.undo(), m.undo()); break;
        }
    }

    private void callAsks() {
        int h = bed();
        int what = below(2);
        int kind = below(6);
        is("kind(" + h + ")", x.kind(h), m.kind(h));
        is("as(" + h + ", " + kind + ")", x.as(h, kind), m.as(h, kind));
        is("ask(" + h + ", " + what + ")", x.ask(h, what), m.ask(h, what));
        for (int i = -1; i <= 7; i++) {
            is("trace(" + i + ")", x.trace(i), m.trace(i));
        }
    }

    /** A row is told as it is of some sort, swing or weight, and then asked for all. */
    private void callFits() {
        int h = bed();
        int what = below(3);
        int n = from(1, 16);
        int r = below(8);
        if (h >= 0 && what < 3 && n >= 1 && n <= 16 && r >= 0 && r < 8 && m.now != null && h < m.now.beds.size()) {
            is("row", x.row(r, 2, n), m.row(r, 2, n));
            Model.State now = m.now;
            Model.State other = now.copyOf();
            Model.Bed bed = other.beds.get(h);
            bed.kind = random.nextBoolean() ? bed.kind : 1 + random.nextInt(5);
            bed.swing = random.nextBoolean() ? bed.swing : random.nextInt(6);
            bed.weight = random.nextBoolean() ? bed.weight : 1 + random.nextInt(20);
            m.now = other;
            int[] told = new int[n];
            for (int k = 0; k < n; k++) {
                told[k] = what == 2 ? m.reach(h, k) : m.ahead(h, k, 0);
            }
            m.now = now;
            for (int k = 0; k < n; k++) {
                is("set", x.set(r, k, told[k]), m.set(r, k, told[k]));
            }
        }
        int i = random.nextInt(5) == 0 ? below(20) : 0;
        is("fits(" + h + ", " + r + ", " + i + ", " + n + ", " + what + ")", x.fits(h, r, i, n, what), m.fits(h, r, i, n, what));
    }

    private void callRest() {
        int k = below(2);
        int h = bed();
        int what = below(8);
        switch (random.nextInt(6)) {
            case 0: is("image(" + k + ")", x.image(k), m.image(k)); break;
            case 1: is("restore(" + k + ")", x.restore(k), m.restore(k)); break;
            case 2: is("count(" + what + ")", x.count(what), m.count(what)); break;
            default: is("hammock(" + h + ", " + what + ")", x.hammock(h, what), m.hammock(h, what)); break;
        }
    }

    private void callGifts() {
        int a = bed();
        int b = bed();
        int c = bed();
        int d = below(61);
        int broken = below(11);
        int what = below(2);
        String two = "(" + a + ", " + b;
        switch (random.nextInt(40)) {
            case 0: is("breaks" + two + ", " + d + ", " + broken + ", " + what + ")",
                x.breaks(a, b, d, broken, what), m.breaks(a, b, d, broken, what)); break;
            case 1: case 2: is("toSling(" + c + ", " + a + ", " + b + ", " + what + ")",
                x.toSling(c, a, b, what), m.toSling(c, a, b, what)); break;
            default: callPlainGifts(a, b, d, two); break;
        }
    }

    private void callPlainGifts(int a, int b, int d, String two) {
        int what = below(2);
        switch (random.nextInt(8)) {
            case 0: is("stops" + two + ", " + d + ")", x.stops(a, b, d), m.stops(a, b, d)); break;
            case 1: is("soonest" + two + ")", x.soonest(a, b), m.soonest(a, b)); break;
            case 2: is("hands" + two + ")", x.hands(a, b), m.hands(a, b)); break;
            case 3: is("everywhere(" + a + ", " + d + ")", x.everywhere(a, d), m.everywhere(a, d)); break;
            case 4: is("meet" + two + ")", x.meet(a, b), m.meet(a, b)); break;
            case 5: is("reach(" + a + ", " + d + ")", x.reach(a, d), m.reach(a, d)); break;
            case 6: is("down(" + d + ")", x.down(d), m.down(d)); break;
            default: is("ahead(" + a + ", " + d + ", " + what + ")", x.ahead(a, d, what), m.ahead(a, d, what)); break;
        }
    }
}
