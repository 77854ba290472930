import java.util.Random;

/** Random runs of calls, each answer against that of the Model. */
public final class ModelTest {
    private static final String[] NAMES = {"hull", "luck", "worth", "rank", "say", "wipe", "fault", "judge", "log",
        "who", "filled", "could", "most", "stable", "leave", "voyages", "letGo", "home", "asks", "winter", "image",
        "restore", "told"};
    private static final int[] ODD = {Integer.MIN_VALUE, Integer.MAX_VALUE, -8, -7, -6, -5, -4, -3, -2, -1, 0, 1, 2,
        3, 4, 5, 6, 7, 8, 9, 10, 11, 15, 16, 25, 31, 32, 33, 48, 49, 60, 61, 63, 64, 99, 100, 126, 127, 129, 130, 999,
        1000, 9999, 10000, 12345, 543210, 654321, 999999, 1000000};
    private static final int RUNS = 300;
    private static final int STEPS = 120;
    /** A step makes at most some 100 calls; an object answers for 512. */
    private static final int MOST_CALLS = 400;

    private static final Random random = new Random(20261118);
    private static LentNames port;
    private static Model model;
    private static final StringBuilder run = new StringBuilder();
    private static int wrong = 0;
    private static int plainAnswers = 0;
    private static int calls = 0;

    private static long call(int op, int a, int b, int c, int d) {
        switch (op) {
            case 0: return port.hull(a, b, c);
            case 1: return port.luck(a, b);
            case 2: return port.worth(a, b, c);
            case 3: return port.rank(a, b);
            case 4: return port.say(a);
            case 5: return port.wipe();
            case 6: return port.fault();
            case 7: return port.judge(a);
            case 8: return port.log(a);
            case 9: return port.who(a, b);
            case 10: return port.filled(a);
            case 11: return port.could(a, b);
            case 12: return port.most(a, b, c);
            case 13: return port.stable(a, b, c);
            case 14: return port.leave(a, b, c, d);
            case 15: return port.voyages(a);
            case 16: return port.letGo(a);
            case 17: return port.home(a, b, c);
            case 18: return port.asks(a, b, c);
            case 19: return port.winter(a, b, c);
            case 20: return port.image(a);
            case 21: return port.restore(a);
            default: return port.told(a);
        }
    }

    private static long due(int op, int a, int b, int c, int d) {
        switch (op) {
            case 0: return model.hull(a, b, c);
            case 1: return model.luck(a, b);
            case 2: return model.worth(a, b, c);
            case 3: return model.rank(a, b);
            case 4: return model.say(a);
            case 5: return model.wipe();
            case 6: return model.fault();
            case 7: return model.judge(a);
            case 8: return model.log(a);
            case 9: return model.who(a, b);
            case 10: return model.filled(a);
            case 11: return model.could(a, b);
            case 12: return model.most(a, b, c);
            case 13: return model.stable(a, b, c);
            case 14: return model.leave(a, b, c, d);
            case 15: return model.voyages(a);
            case 16: return model.letGo(a);
            case 17: return model.home(a, b, c);
            case 18: return model.asks(a, b, c);
            case 19: return model.winter(a, b, c);
            case 20: return model.image(a);
            case 21: return model.restore(a);
            default: return model.told(a);
        }
    }

    private static void both(int op, int a, int b, int c, int d) {
        run.append(NAMES[op]).append('(').append(a).append(' ').append(b).append(' ').append(c).append(' ').append(d)
            .append(") ");
        calls++;
        long got = call(op, a, b, c, d);
        long want = due(op, a, b, c, d);
        if (got >= 0) {
            plainAnswers++;
        }
        if (got != want) {
            wrong++;
            if (wrong <= 5) {
                System.out.println(run + "answered " + got + ", due is " + want + "; pad " + model.pad);
            }
        }
    }

    private static int upTo(int n) {
        return random.nextInt(n + 1);
    }

    private static int row() {
        int[] row = {0, 1, 2, 3, 4, 5};
        int number = 0;
        for (int i = 5; i >= 0; i--) {
            int k = upTo(i);
            number = number * 10 + row[k];
            row[k] = row[i];
        }
        return number;
    }

    private static void set() {
        switch (upTo(5)) {
            case 0: both(0, upTo(5), 0, upTo(3) == 0 ? upTo(31) : upTo(31) | upTo(31), 0); break;
            case 1: both(0, upTo(5), 1, upTo(9), 0); break;
            case 2: both(1, upTo(4), upTo(10), 0, 0); break;
            case 3: both(2, upTo(5), upTo(4), upTo(1) == 0 ? upTo(99) : 9 + upTo(2), 0); break;
            case 4: both(3, upTo(4), row(), 0, 0); break;
            default: both(20 + upTo(1), upTo(1), 0, 0, 0); break;
        }
    }

    private static void write(String text) {
        for (char sign : text.toCharArray()) {
            both(4, sign, 0, 0, 0);
        }
    }

    private static String part(int gapsOfTen) {
        int kind = upTo(9);
        if (kind < 3) {
            return ".";
        }
        String name = String.valueOf((char) ('a' + upTo(4)));
        if (kind == 3) {
            return "!" + name;
        }
        String hull = upTo(9) < gapsOfTen ? "?" : String.valueOf((char) ('A' + upTo(5)));
        return hull + name + (char) ('1' + (upTo(2) == 0 ? upTo(8) : upTo(2)));
    }

    /** Says a log, most of whose parts can be; now and then one that can not, or signs at random. */
    private static void writeLog() {
        both(5, 0, 0, 0, 0);
        int gapsOfTen = upTo(2) == 0 ? 0 : upTo(6);
        int parts = upTo(18);
        for (int i = 0; i < parts; i++) {
            String before = model.pad;
            String part = part(gapsOfTen);
            model.pad = before + part;
            boolean good = model.pad.length() <= 48 && (model.filled(-1) > 0 || upTo(40) == 0);
            model.pad = before;
            if (good) {
                write(part);
            }
        }
        if (upTo(7) == 0) {
            write(String.valueOf("ABFabe19.!?0fG~@`".charAt(upTo(16))));
        }
    }

    private static void askLog() {
        int last = (int) model.pad.chars().filter(c -> c == '.').count();
        both(6, 0, 0, 0, 0);
        both(7, 0, 0, 0, 0);
        both(7, 1, 0, 0, 0);
        both(10, upTo(5) - 1, 0, 0, 0);
        for (int i = 0; i < 3; i++) {
            both(8, 10 * (1 + upTo(3)) + upTo(4), 0, 0, 0);
            both(9, upTo(4), upTo(last), 0, 0);
            both(11, upTo(4), upTo(last), 0, 0);
        }
        both(8, upTo(1) * 15, 0, 0, 0);
    }

    private static void askRest() {
        int hulls = upTo(1) == 0 ? 63 : upTo(63);
        int names = upTo(1) == 0 ? 31 : upTo(31);
        switch (upTo(8)) {
            case 0: both(12, hulls, names, upTo(9) - 3, 0); break;
            case 1: both(13, hulls, names, upTo(9) - 3, 0); break;
            case 2: both(14, hulls, names, giving(hulls, names), upTo(1)); break;
            case 3: both(15, upTo(6) - 1, 0, 0, 0); break;
            case 4: both(16, upTo(1), 0, 0, 0); break;
            case 5: both(17, upTo(4), 1 + upTo(6), upTo(1), 0); break;
            case 6: both(18, upTo(4), 1 + upTo(6), upTo(999), 0); break;
            case 7: both(19, upTo(9999), 1 + upTo(59), upTo(2), 0); break;
            default: both(22, ODD[random.nextInt(ODD.length)], 0, 0, 0); break;
        }
    }

    /** The number of a giving; often one that is stable, or nearly so. */
    private static int giving(int hulls, int names) {
        int[] of = new int[6];
        int free = names;
        boolean fromStable = upTo(1) == 0;
        for (int h = 0; h < 6; h++) {
            int name = fromStable ? (int) model.stable(hulls, names, h) : upTo(4);
            boolean may = (hulls >> h & 1) == 1 && name >= 0 && (model.kept.may[h] & free & 1 << name) != 0;
            if (may && upTo(9) > 0) {
                of[h] = name + 1;
                free &= ~(1 << name);
            }
        }
        if (upTo(9) == 0) {
            of[upTo(5)] = upTo(9);
        }
        int number = 0;
        for (int digit : of) {
            number = number * 10 + digit;
        }
        return number;
    }

    private static int odd() {
        return upTo(1) == 0 ? upTo(5) : ODD[random.nextInt(ODD.length)];
    }

    private static int oneRun(int made) {
        port = new LentNames();
        model = new Model();
        run.setLength(0);
        calls = 0;
        for (int i = 0; i < STEPS && calls < MOST_CALLS; i++) {
            int kind = upTo(20);
            if (kind < 9) {
                set();
            } else if (kind == 9) {
                writeLog();
                askLog();
            } else if (kind < 18) {
                askRest();
            } else {
                both(upTo(22), odd(), odd(), odd(), odd());
            }
            made++;
        }
        return made;
    }

    public static void main(String[] args) {
        int made = 0;
        for (int i = 0; i < RUNS; i++) {
            made = oneRun(made);
        }
        System.out.println("ModelTest: " + made + " steps, " + plainAnswers + " plain answers, " + wrong + " wrong");
        if (wrong != 0) {
            System.exit(1);
        }
    }
}
