/** Counts the answers that are not as due, and ends the test by them. */
final class Expect {
    static final int NONE = -1000000, BAD = -1000001, STATE = -1000002, FULL = -1000003;
    static final int NO_ROW = -1000011, NO_PLACE = -1000012, NO_KIND = -1000013;
    static final int NO_SIZE = -1000014, NO_STORE = -1000015;

    private static final int TOLD = 40;

    private int asked;
    private int wrong;

    void is(String call, long got, long want) {
        asked++;
        if (got != want) {
            wrong++;
            if (wrong <= TOLD) {
                System.out.println(call + " answered " + got + ", due is " + want);
            }
        }
    }

    void end() {
        System.out.println(asked + " answers, " + wrong + " not as due");
        if (wrong != 0) {
            System.exit(1);
        }
    }

    static void feedAll(HammockReach x, String text) {
        for (int i = 0; i < text.length(); i++) {
            x.feed(text.charAt(i));
        }
    }

    static HammockReach read(String text) {
        HammockReach x = new HammockReach();
        feedAll(x, text);
        if (x.forest() < 0) {
            throw new IllegalArgumentException("no forest: " + text);
        }
        return x;
    }
}
