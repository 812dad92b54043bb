import java.math.BigInteger;
import java.util.ArrayDeque;
import java.util.ArrayList;
import java.util.Arrays;
import java.util.List;
import java.util.Map;
import java.util.TreeMap;
import java.util.regex.Matcher;
import java.util.regex.Pattern;

/**
 * The document once more, as plainly as it can be told and in other ways than the program's:
 * it copies whole states, swings step by step, and searches every way of a gift by itself.
 */
final class Model {
    private static final Pattern TOKEN = Pattern.compile("[a-z]|[0-9]+|[^a-z0-9]", Pattern.DOTALL);
    private static final List<String> SORTS = List.of("c", "s", "v", "r", "o");

    /** One hammock. */
    static final class Bed implements Cloneable {
        int kind, a, b, weight, swing;
        boolean cut;

        Bed copyOf() {
            try {
                return (Bed) clone();
            } catch (CloneNotSupportedException x) {
                throw new IllegalStateException(x);
            }
        }
    }

    static final class State {
        int high, arm, minute;
        List<Bed> beds = new ArrayList<>();

        State copyOf() {
            State s = new State();
            s.high = high;
            s.arm = arm;
            s.minute = minute;
            for (Bed bed : beds) {
                s.beds.add(bed.copyOf());
            }
            return s;
        }
    }

    State now;
    private final StringBuilder tape = new StringBuilder();
    private int fault;
    private int status;
    private final List<State> before = new ArrayList<>();
    private final Map<Integer, State> images = new TreeMap<>();
    private final Map<Integer, int[]> rows = new TreeMap<>();
    private final Map<Integer, Integer> lanes = new TreeMap<>();
    private final List<Integer> trace = new ArrayList<>();

    // ---- rows

    int row(int row, int lane, int n) {
        if (row < 0 || row > 7 || lane < 0 || lane > 2 || n > 40) return Expect.BAD;
        if (n < 0) return finding(4);
        rows.put(row, new int[n]);
        lanes.put(row, lane);
        return fine(n);
    }

    int set(int row, int i, int v) {
        if (row < 0 || row > 7) return Expect.BAD;
        if (!rows.containsKey(row)) return finding(1);
        if (i < 0 || i >= rows.get(row).length) return finding(2);
        int lane = lanes.get(row);
        int is = lane == 0 ? (byte) v : lane == 1 ? (short) v : v;
        rows.get(row)[i] = is;
        return fine(is);
    }

    int copy(int a, int i, int b, int j, int n) {
        if (a < 0 || a > 7 || b < 0 || b > 7) return Expect.BAD;
        if (!rows.containsKey(a) || !rows.containsKey(b)) return finding(1);
        if (!lanes.get(a).equals(lanes.get(b))) return finding(5);
        int[] from = rows.get(a).clone();
        int[] to = rows.get(b);
        if (i < 0 || j < 0 || n < 0 || (long) i + n > from.length || (long) j + n > to.length) return finding(2);
        for (int k = 0; k < n; k++) to[j + k] = from[i + k];
        return fine(n);
    }

    int drop(int row) {
        if (row < 0 || row > 7) return Expect.BAD;
        if (!rows.containsKey(row)) return finding(1);
        lanes.remove(row);
        return fine(rows.remove(row).length);
    }

    private int finding(int number) {
        status = number;
        return -1000010 - number;
    }

    private int fine(int answer) {
        status = 0;
        return answer;
    }

    // ---- forests

    int feed(int letter) {
        if (letter < 0 || letter > 255) return Expect.BAD;
        if (tape.length() == 120) return Expect.FULL;
        tape.append((char) letter);
        return tape.length();
    }

    int forest() {
        String text = tape.toString();
        tape.setLength(0);
        List<String> tokens = new ArrayList<>();
        List<Integer> places = new ArrayList<>();
        Matcher m = TOKEN.matcher(text);
        while (m.find()) {
            tokens.add(m.group());
            places.add(m.start());
        }
        places.add(text.length());
        State s = new State();
        int[] law = new int[2];
        int at = parse(tokens, 0, "tn,n;", new int[][] {{0, 40}, {0, 5}}, law);
        s.high = law[0];
        s.arm = law[1];
        while (at >= 0 && at < tokens.size()) {
            boolean letter = SORTS.contains(tokens.get(at));
            if (letter && s.beds.size() == 6) {
                wrong = 3;
                at = -1 - at;
                break;
            }
            int[] told = new int[4];
            Bed bed = new Bed();
            bed.kind = letter ? 1 + SORTS.indexOf(tokens.get(at)) : 0;
            at = parse(tokens, at, "Hn,N,n,n;", new int[][] {{0, 11}, {0, 11}, {1, 20}, {0, 5}}, told);
            bed.a = told[0];
            bed.b = told[1];
            bed.weight = told[2];
            bed.swing = told[3];
            s.beds.add(bed);
        }
        if (at < 0) {
            fault = wrong;
            return -1000100 - places.get(-1 - at);
        }
        now = s;
        before.clear();
        return s.beds.size();
    }

    private int wrong;

    /** By a shape (H a sort, n a number, N a number above the one before): the next token; -1 less a fault. */
    private int parse(List<String> tokens, int at, String shape, int[][] bounds, int[] told) {
        int numbers = 0;
        for (char c : shape.toCharArray()) {
            String token = at < tokens.size() ? tokens.get(at) : "";
            boolean number = c == 'n' || c == 'N';
            boolean stands = number ? token.matches("[0-9]{1,2}")
                : c == 'H' ? SORTS.contains(token) : token.equals(String.valueOf(c));
            wrong = 1;
            if (!stands) return -1 - at;
            if (number) {
                int value = Integer.parseInt(token);
                wrong = 2;
                if (value < bounds[numbers][0] || value > bounds[numbers][1]) return -1 - at;
                if (c == 'N' && value <= told[numbers - 1]) return -1 - at;
                told[numbers++] = value;
            }
            at++;
        }
        return at;
    }

    // ---- acts

    private void act() {
        before.add(now.copyOf());
        if (before.size() > 24) before.remove(0);
    }

    int minutes(int n) {
        if (now == null) return Expect.STATE;
        if (n < 1 || n > 24) return Expect.BAD;
        if (now.minute + n > 999) return Expect.FULL;
        for (int i = 0; i < n; i++) {
            act();
            now.minute += 1;
        }
        return down(0);
    }

    int sling(int h, int a, int b) {
        if (bad(h) || a < 0 || b > 11 || b <= a) return Expect.BAD;
        if (bed(h).a == a && bed(h).b == b) return Expect.STATE;
        act();
        bed(h).a = a;
        bed(h).b = b;
        return where(now, h, now.minute);
    }

    int load(int h, int weight) {
        if (bad(h) || weight < 1 || weight > 20) return Expect.BAD;
        act();
        bed(h).weight = weight;
        return dip(now, h, now.minute);
    }

    int cord(int h, int cut) {
        if (bad(h) || cut < 0 || cut > 1) return Expect.BAD;
        if (bed(h).cut == (cut == 1)) return Expect.STATE;
        act();
        bed(h).cut = cut == 1;
        int bits = 0;
        for (int i = 0; i < now.beds.size(); i++) if (bed(i).cut) bits += 1 << i;
        return bits;
    }

    int undo() {
        if (before.isEmpty()) return Expect.STATE;
        now = before.remove(before.size() - 1);
        return before.size();
    }

    int hammock(int h, int what) {
        if (bad(h) || what < 0 || what > 6) return Expect.BAD;
        Bed x = bed(h);
        int[] told = {x.a, x.b, x.weight, x.swing, x.cut ? 1 : 0, dip(now, h, now.minute), where(now, h, now.minute)};
        return told[what];
    }

    private boolean bad(int h) {
        return now == null || h < 0 || h >= now.beds.size();
    }

    private Bed bed(int h) {
        return now.beds.get(h);
    }

    // ---- where, dip, in reach

    static int where(State s, int h, int t) {
        Bed x = s.beds.get(h);
        int offset = 0;
        if (x.kind == 5) offset = x.swing;
        if (x.kind <= 3 && x.swing > 0) {
            int steps = x.kind == 3 ? t / 2 : t;
            int way = 1;
            for (int i = 0; i < steps; i++) {
                if (offset == x.swing) way = -1;
                if (offset == -x.swing) way = 1;
                offset += way;
            }
        }
        return x.a + x.b + 2 * offset;
    }

    static int dip(State s, int h, int t) {
        Bed x = s.beds.get(h);
        if (x.kind == 5) return 0;
        if (x.kind == 4) return x.b - x.a;
        int cord = x.weight + (x.b - x.a) / 2;
        return x.kind == 1 ? cord : x.kind == 2 ? cord / 2 : cord + t / 10;
    }

    static boolean isDown(State s, int h, int t) {
        return s.beds.get(h).cut || dip(s, h, t) > s.high;
    }

    static boolean inReach(State s, int a, int b, int t) {
        if (a == b || isDown(s, a, t) || isDown(s, b, t)) return false;
        return Math.abs(where(s, a, t) - where(s, b, t)) <= 2 * s.arm;
    }

    int ahead(int h, int d, int what) {
        if (bad(h) || d < 0 || d > 60 || what < 0 || what > 1) return Expect.BAD;
        return what == 0 ? where(now, h, now.minute + d) : dip(now, h, now.minute + d);
    }

    int down(int d) {
        if (now == null) return Expect.STATE;
        if (d < 0 || d > 60) return Expect.BAD;
        int bits = 0;
        for (int h = 0; h < now.beds.size(); h++) if (isDown(now, h, now.minute + d)) bits += 1 << h;
        return bits;
    }

    int reach(int h, int d) {
        if (bad(h) || d < 0 || d > 60) return Expect.BAD;
        return reach(now, h, now.minute + d);
    }

    private static int reach(State s, int h, int t) {
        int bits = 0;
        for (int i = 0; i < s.beds.size(); i++) if (inReach(s, h, i, t)) bits += 1 << i;
        return bits;
    }

    int meet(int a, int b) {
        if (bad(a) || bad(b) || a == b) return Expect.BAD;
        for (int d = 0; d <= 60; d++) if (inReach(now, a, b, now.minute + d)) return d;
        return Expect.NONE;
    }

    // ---- gifts: each way by itself, over pairs of a minute and who has it

    /** The fewest hands by which each has it behind each minute; -1 never. */
    private static int[][] ways(State s, int a) {
        int size = s.beds.size();
        int[][] hands = new int[61][size];
        for (int[] row : hands) Arrays.fill(row, -1);
        hands[0][a] = 0;
        ArrayDeque<int[]> open = new ArrayDeque<>();
        open.add(new int[] {0, a});
        while (!open.isEmpty()) {
            int[] way = open.remove();
            int t = way[0];
            if (t == 60) continue;
            for (int to = 0; to < size; to++) {
                if (to != way[1] && !inReach(s, way[1], to, s.minute + t)) continue;
                int given = hands[t][way[1]] + (to == way[1] ? 0 : 1);
                if (hands[t + 1][to] >= 0 && hands[t + 1][to] <= given) continue;
                hands[t + 1][to] = given;
                open.add(new int[] {t + 1, to});
            }
        }
        return hands;
    }

    private static int soonest(State s, int a, int b) {
        int[][] hands = ways(s, a);
        for (int d = 0; d <= 60; d++) if (hands[d][b] >= 0) return d;
        return Expect.NONE;
    }

    private static boolean inTime(State s, int a, int b, int d) {
        return ways(s, a)[d][b] >= 0;
    }

    int soonest(int a, int b) {
        return bad(a) || bad(b) ? Expect.BAD : soonest(now, a, b);
    }

    int hands(int a, int b) {
        if (bad(a) || bad(b)) return Expect.BAD;
        int fewest = ways(now, a)[60][b];
        return fewest < 0 ? Expect.NONE : fewest;
    }

    int everywhere(int a, int d) {
        if (bad(a) || d < 0 || d > 60) return Expect.BAD;
        int bits = 0;
        for (int h = 0; h < now.beds.size(); h++) if (ways(now, a)[d][h] >= 0) bits += 1 << h;
        return bits;
    }

    int stops(int a, int b, int d) {
        if (bad(a) || bad(b) || a == b || d < 0 || d > 60) return Expect.BAD;
        int bits = 0;
        for (int c = 0; c < now.beds.size() && inTime(now, a, b, d); c++) {
            State s = now.copyOf();
            s.beds.get(c).cut = true;
            if (c != a && c != b && !inTime(s, a, b, d)) bits += 1 << c;
        }
        return bits;
    }

    int toSling(int c, int a, int b, int what) {
        if (bad(a) || bad(b) || bad(c) || a == b || a == c || b == c || what < 0 || what > 1) return Expect.BAD;
        TreeMap<Integer, Integer> leastBySoonest = new TreeMap<>();
        for (int low = 11; low >= 0; low--) {
            for (int top = 11; top > low; top--) {
                State s = now.copyOf();
                s.beds.get(c).a = low;
                s.beds.get(c).b = top;
                int behind = soonest(s, a, b);
                if (behind != Expect.NONE) leastBySoonest.merge(behind, 12 * low + top, Math::min);
            }
        }
        if (leastBySoonest.isEmpty()) return Expect.NONE;
        int behind = leastBySoonest.firstKey();
        if (what == 1) return behind;
        boolean asItIs = soonest(now, a, b) == behind;
        return asItIs ? 12 * bed(c).a + bed(c).b : leastBySoonest.get(behind);
    }

    int fits(int h, int row, int i, int n, int what) {
        if (bad(h) || row < 0 || row > 7 || n < 1 || n > 16 || what < 0 || what > 2) return Expect.BAD;
        if (!rows.containsKey(row)) return finding(1);
        int[] items = rows.get(row);
        if (i < 0 || (long) i + n > items.length) return finding(2);
        int bits = 0;
        for (int v = what == 1 ? 0 : 1; v <= (what == 2 ? 20 : 5); v++) {
            State s = now.copyOf();
            if (what == 0) s.beds.get(h).kind = v;
            if (what == 1) s.beds.get(h).swing = v;
            if (what == 2) s.beds.get(h).weight = v;
            boolean all = true;
            for (int k = 0; k < n; k++) {
                int is = what == 2 ? reach(s, h, s.minute + k) : where(s, h, s.minute + k);
                all &= is == items[i + k];
            }
            if (all) bits += 1 << v;
        }
        return fine(bits);
    }

    int breaks(int a, int b, int d, int c, int what) {
        if (bad(a) || bad(b) || d < 0 || d > 60 || c < 0 || c > 10 || what < 0 || what > 1) return Expect.BAD;
        BigInteger[] chance = chance(now, 0, a, b, d, c);
        BigInteger gcd = chance[0].gcd(chance[1]);
        return chance[what].divide(gcd).intValueExact();
    }

    /** By the cord of hammock h breaking or not, then of the next: a fraction, not in lowest terms. */
    private static BigInteger[] chance(State s, int h, int a, int b, int d, int c) {
        if (h == s.beds.size()) {
            return new BigInteger[] {inTime(s, a, b, d) ? BigInteger.ONE : BigInteger.ZERO, BigInteger.ONE};
        }
        if (s.beds.get(h).cut) return chance(s, h + 1, a, b, d, c);
        State broken = s.copyOf();
        broken.beds.get(h).cut = true;
        State held = s.copyOf();
        // As many cords are to come either way, so that both fractions have the same lower part.
        BigInteger[] no = chance(broken, h + 1, a, b, d, c);
        BigInteger[] yes = chance(held, h + 1, a, b, d, c);
        BigInteger above = no[0].multiply(BigInteger.valueOf(c)).add(yes[0].multiply(BigInteger.valueOf(10 - c)));
        return new BigInteger[] {above, no[1].multiply(BigInteger.TEN)};
    }

    // ---- images, asks

    int image(int k) {
        if (k < 0 || k > 1) return Expect.BAD;
        if (now == null) return Expect.STATE;
        images.put(k, now.copyOf());
        return 1;
    }

    int restore(int k) {
        if (k < 0 || k > 1) return Expect.BAD;
        if (!images.containsKey(k)) return Expect.STATE;
        now = images.get(k).copyOf();
        before.clear();
        return 1;
    }

    int kind(int h) {
        return bad(h) ? Expect.BAD : bed(h).kind;
    }

    int as(int h, int kind) {
        if (bad(h) || kind < 0 || kind > 5) return Expect.BAD;
        int is = bed(h).kind;
        boolean such = kind == 0 || kind == is || kind == 1 && is <= 3 || kind == 4 && is == 5;
        return such ? fine(h) : finding(3);
    }

    int ask(int h, int what) {
        if (bad(h) || what < 0 || what > 1) return Expect.BAD;
        trace.clear();
        return what == 0 ? size(h) : mark(h);
    }

    private int size(int h) {
        int weight = bed(h).weight;
        switch (bed(h).kind) {
            case 1: case 3: note(11, 10); return weight + mark(h);
            case 2: note(12, 11, 10); return -(weight + mark(h));
            case 4: note(13, 10); return weight - 100;
            default: note(14, 13, 10); return 2 * (weight - 100);
        }
    }

    private int mark(int h) {
        int dip = dip(now, h, now.minute);
        switch (bed(h).kind) {
            case 1: note(21, 20); return h + dip;
            case 2: note(24, 21, 20); return 2 * (h + dip);
            case 3: note(22, 21, 20); return h + dip - 1000;
            default: note(23, 20); return h - size(h);
        }
    }

    private void note(int... bodies) {
        for (int body : bodies) trace.add(body);
    }

    int trace(int i) {
        return i < 0 || i >= trace.size() ? Expect.NONE : trace.get(i);
    }

    int fault() {
        return fault;
    }

    int count(int what) {
        int cut = 0;
        if (now != null) for (Bed x : now.beds) cut += x.cut ? 1 : 0;
        switch (what) {
            case 0: return rows.size();
            case 1: return now == null ? 0 : now.beds.size();
            case 2: return now == null ? 0 : now.minute;
            case 3: return now == null ? 0 : now.high;
            case 4: return now == null ? 0 : now.arm;
            case 5: return cut;
            case 6: return before.size();
            case 7: return tape.length();
            default: return Expect.BAD;
        }
    }

    int status() {
        return status;
    }
}
