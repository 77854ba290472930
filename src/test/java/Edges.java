import java.util.ArrayList;
import java.util.Arrays;
import java.util.List;
import java.util.TreeSet;

/**
 * What the tests of edges share: numbers to try, objects in many states to try them on, what is due.
 * No object is asked more than the 512 calls for which the document answers.
 */
final class Edges {
    static final int NONE = -6, DROWNED = -7, UNKNOWN = -1, OUTSIDE = -2, STATE = -3, FULL = -4, NO = -5;
    static final long LOST = -1000000000000000000L;
    static final int LEAST = Integer.MIN_VALUE, GREATEST = Integer.MAX_VALUE;

    /** Numbers on both sides of every bound of the document, of powers of two, and both ends of int. */
    static final int[] NUMBERS = numbers();
    /** Fewer of them, for calls of many arguments. */
    static final int[] FEW = {LEAST, LEAST + 1, -1000000, -65536, -257, -256, -64, -32, -8, -7, -6, -5, -4, -3, -2, -1,
        0, 1, 2, 3, 4, 5, 6, 7, 8, 9, 10, 11, 12, 30, 31, 32, 33, 59, 60, 61, 62, 63, 64, 65, 98, 99, 100, 101, 255,
        256, 998, 999, 1000, 1001, 9998, 9999, 10000, 10001, 65535, 65536, 1 << 30, GREATEST - 1, GREATEST};
    /** Numbers that are no HULL, and are no NAME either. */
    static final int[] NO_HULLS = {LEAST, LEAST + 1, -6, -2, -1, 6, 7, 32, 64, 256, 1 << 16, GREATEST - 1, GREATEST};
    static final int[] NO_NAMES = {LEAST, LEAST + 1, -6, -2, -1, 5, 6, 32, 64, 256, 1 << 16, GREATEST - 1, GREATEST};

    /** The states of objects that harbour makes. */
    static final int NEW = 0, GOOD = 1, GAPS = 2, BAD = 3, BROKEN = 4, FULL_PAD = 5, NO_WAY = 6, HARBOURS = 7;
    private static final String[] STATES = {"a new object", "a good log", "a log with ?", "a log that can not be",
        "a log with a fault", "a full pad", "a log with ? that no way makes good"};
    private static final int[] ROWS = {543210, 12354, 302145};

    interface Call {
        long on(LentNames port);
    }

    private final List<List<Long>> untouched = new ArrayList<>();
    private int wrong = 0;
    private int rows = 0;

    private static int[] numbers() {
        TreeSet<Integer> all = new TreeSet<>();
        for (int i = -70; i <= 135; i++) {
            all.add(i);
        }
        for (int power = 7; power < 31; power++) {
            addRound(all, 1 << power);
        }
        for (int bound : new int[] {512, 999, 1000, 1296, 9999, 10000, 12345, 543210, 999999, 1000000}) {
            addRound(all, bound);
        }
        all.addAll(Arrays.asList(LEAST, LEAST + 1, GREATEST - 1, GREATEST));
        return all.stream().mapToInt(i -> i).toArray();
    }

    private static void addRound(TreeSet<Integer> all, int bound) {
        for (int by = -1; by <= 1; by++) {
            all.add(bound + by);
            all.add(-bound + by);
        }
    }

    static boolean within(int v, int least, int greatest) {
        return v >= least && v <= greatest;
    }

    static String times(int n, String text) {
        return text.repeat(n);
    }

    static String dots(int n) {
        return ".".repeat(n);
    }

    static LentNames tell(LentNames port, String log) {
        port.wipe();
        for (char sign : log.toCharArray()) {
            port.say(sign);
        }
        return port;
    }

    static LentNames told(String log) {
        return tell(new LentNames(), log);
    }

    void due(String call, long got, long want) {
        rows++;
        if (got != want) {
            wrong++;
            if (wrong <= 40) {
                System.out.println(call + " answered " + got + ", due is " + want);
            }
        }
    }

    /** Sets all that can be set: A may a, B may b, C may c at least, if by is 0 to 2. */
    static LentNames set(LentNames port, int by) {
        for (int h = 0; h < 6; h++) {
            port.hull(h, 0, 31 - (1 << (h + by + 1) % 5));
            port.hull(h, 1, (2 * h + by) % 10);
            for (int n = 0; n < 5; n++) {
                port.worth(h, n, (17 * h + 7 * n + by) % 100);
            }
        }
        for (int n = 0; n < 5; n++) {
            port.luck(n, (3 * n + by) % 11);
            port.rank(n, ROWS[(n + by) % 3]);
        }
        return port;
    }

    static LentNames harbour(int state) {
        LentNames port = new LentNames();
        switch (state) {
            case GOOD:
                set(port, 0).image(0);
                port.luck(0, 9);
                return tell(port, "Aa2.Bb9!b.Cc3");
            case GAPS:
                set(port, 1).image(1);
                set(port, 2).image(0);
                return tell(port, "?a3.?b2.");
            case BAD:
                set(port, 2).image(0);
                return tell(port, "Aa1.!a.");
            case BROKEN:
                port.image(1);
                return tell(set(port, 0), "?a1.Aa");
            case FULL_PAD:
                return tell(set(port, 1), dots(48));
            case NO_WAY:
                return tell(set(port, 1), "!a.?b2");
            default:
                return port;
        }
    }

    /** All that an object can tell of itself: what is set, what is on the pad, what the images keep. */
    static List<Long> allOf(LentNames port) {
        List<Long> all = new ArrayList<>();
        for (int what = 0; what < 130; what++) {
            all.add((long) port.told(what));
        }
        all.add((long) port.fault());
        all.add((long) port.judge(0));
        all.add((long) port.judge(1));
        for (int what = 0; what < 5; what++) {
            all.add((long) port.log(10 * what));
            all.add((long) port.filled(what - 1));
            for (int day = 0; day < 4; day++) {
                all.add((long) port.who(what, day));
                all.add((long) port.could(what, day));
            }
        }
        for (int image = 0; image < 2; image++) {
            all.add((long) port.restore(image));
            for (int h = 0; h < 6; h++) {
                all.add((long) port.told(10 + h));
                all.add((long) port.told(20 + h));
                all.add((long) port.told(100 + 5 * h + h % 5));
            }
            for (int n = 0; n < 5; n++) {
                all.add((long) port.told(30 + n));
                all.add((long) port.told(40 + n));
            }
        }
        all.add((long) port.say('.'));
        all.add((long) port.fault());
        return all;
    }

    private List<Long> untouched(int state) {
        while (untouched.size() <= state) {
            untouched.add(allOf(harbour(untouched.size())));
        }
        return untouched.get(state);
    }

    /** In this state a call is refused, and the object tells all as one that was not called. */
    void refusedIn(int state, String name, Call call, long want) {
        LentNames port = harbour(state);
        due(name + " on " + STATES[state], call.on(port), want);
        due(name + " on " + STATES[state] + ", refused, changes nothing", allOf(port).equals(untouched(state)) ? 1 : 0,
            1);
    }

    /** In every state a call is refused, and changes nothing. */
    void refused(String name, Call call, long want) {
        for (int state = 0; state < HARBOURS; state++) {
            refusedIn(state, name, call, want);
        }
    }

    /** Tells what came out, and ends with code 1 if an answer was wrong. */
    void end(String test) {
        System.out.println(test + ": " + rows + " answers, " + wrong + " wrong");
        if (wrong != 0) {
            System.exit(1);
        }
    }
}
