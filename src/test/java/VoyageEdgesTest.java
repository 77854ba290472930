import java.math.BigInteger;

/** Edges of voyages, letting go, storms, images and what is told (promises 17 to 24): each test stands for the sentence in its remark. */
public final class VoyageEdgesTest {
    private static final int NONE = Edges.NONE, UNKNOWN = Edges.UNKNOWN, OUTSIDE = Edges.OUTSIDE, STATE = Edges.STATE;
    private static final long LOST = Edges.LOST;
    private static final int LEAST = Edges.LEAST, GREATEST = Edges.GREATEST;
    private static final int[] NOT_0_OR_1 = {LEAST, LEAST + 1, -65536, -6, -2, -1, 2, 3, 4, 32, 33, 256, 257, 65536,
        GREATEST - 1, GREATEST};
    private static final Edges edges = new Edges();

    private static void due(String call, long got, long want) {
        edges.due(call, got, want);
    }

    /** All answers of voyages: the days, then the NAME of each HULL. */
    private static void voyages(LentNames port, int... want) {
        for (int i = -1; i <= 5; i++) {
            due("voyages(" + i + ")", port.voyages(i), want[i + 1]);
        }
    }

    private static void letGo(LentNames port, int name, int days) {
        due("letGo(0)", port.letGo(0), name);
        due("letGo(1)", port.letGo(1), days);
    }

    /** An object in which HULLS have these VOYAGES, and MAY sail as told for all. */
    private static LentNames fleet(int may, int... days) {
        LentNames port = new LentNames();
        for (int h = 0; h < 6; h++) {
            port.hull(h, 0, may);
            port.hull(h, 1, days[h]);
        }
        return port;
    }

    // ---- promise 17

    /** "VOYAGES, one of each HULL at most (0 to 9 days; 0 at first: none)": no VOYAGE. */
    private static void noVoyage() {
        voyages(new LentNames(), 0, NONE, NONE, NONE, NONE, NONE, NONE);
        voyages(fleet(0, 0, 0, 0, 0, 0, 0), 0, NONE, NONE, NONE, NONE, NONE, NONE);
    }

    /** Promise 17: "or it has no VOYAGE": one VOYAGE of each length, of each HULL; the others have none. */
    private static void oneVoyage() {
        for (int h = 0; h < 6; h++) {
            for (int days = 1; days <= 9; days++) {
                LentNames port = new LentNames();
                port.hull(h, 1, days);
                int[] want = {days, NONE, NONE, NONE, NONE, NONE, NONE};
                want[h + 1] = 0;
                voyages(port, want);
                port.hull(h, 1, 0);
                voyages(port, 0, NONE, NONE, NONE, NONE, NONE, NONE);
            }
        }
    }

    /** "each under one NAME that it MAY": each NAME alone; one that has no VOYAGE need not sail. */
    private static void underWhatItMay() {
        for (int h = 0; h < 6; h++) {
            for (int n = 0; n < 5; n++) {
                LentNames port = fleet(0, 0, 0, 0, 0, 0, 0);
                port.hull(h, 0, 1 << n);
                port.hull(h, 1, 4);
                int[] want = {4, NONE, NONE, NONE, NONE, NONE, NONE};
                want[h + 1] = n;
                voyages(port, want);
            }
        }
        voyages(fleet(16, 1, 1, 1, 1, 1, 1), 6, 4, 4, 4, 4, 4, 4);
    }

    /** "one behind another under each NAME": the days under a NAME add up, to 54 at most. */
    private static void behindAnother() {
        voyages(fleet(1, 9, 9, 9, 9, 9, 9), 54, 0, 0, 0, 0, 0, 0);
        voyages(fleet(2, 1, 2, 3, 4, 5, 6), 21, 1, 1, 1, 1, 1, 1);
        voyages(fleet(3, 9, 9, 9, 9, 9, 9), 27, 0, 0, 0, 1, 1, 1);
        voyages(fleet(31, 9, 9, 9, 9, 9, 9), 18, 0, 0, 1, 1, 2, 2);
        voyages(fleet(31, 9, 9, 9, 9, 9, 0), 9, 0, 1, 2, 3, 4, NONE);
        voyages(fleet(31, 1, 1, 1, 1, 1, 1), 2, 0, 0, 1, 1, 2, 2);
    }

    /** "the least days till all are at home" and promise 17: "The least days (i = -1), the NAME of HULL i" */
    private static void leastDays() {
        voyages(fleet(31, 9, 8, 7, 6, 5, 4), 9, 0, 1, 2, 3, 4, 4);
        voyages(fleet(3, 9, 8, 7, 6, 5, 4), 20, 0, 1, 0, 1, 1, 0);
        voyages(fleet(31, 9, 1, 1, 1, 1, 1), 9, 0, 1, 1, 1, 1, 1);
        voyages(fleet(31, 1, 1, 1, 1, 1, 9), 9, 0, 0, 0, 0, 0, 1);
        voyages(fleet(31, 5, 4, 9, 0, 0, 0), 9, 0, 0, 1, NONE, NONE, NONE);
        // the longest goes under the one NAME that it MAY, the others keep off it
        LentNames port = fleet(3, 2, 2, 9, 0, 0, 0);
        port.hull(2, 0, 1);
        voyages(port, 9, 1, 1, 0, NONE, NONE, NONE);
        port.hull(0, 0, 1);
        voyages(port, 11, 0, 1, 0, NONE, NONE, NONE);
    }

    /** "the first NAMES by which that is so (HULL 0's first)": HULL 0 as far ahead as the least days let it, then HULL 1. */
    private static void firstNames() {
        voyages(fleet(3, 9, 8, 1, 0, 0, 0), 9, 0, 1, 1, NONE, NONE, NONE);
        voyages(fleet(3, 1, 8, 9, 0, 0, 0), 9, 0, 0, 1, NONE, NONE, NONE);
        voyages(fleet(12, 1, 8, 9, 1, 0, 0), 10, 2, 2, 3, 2, NONE, NONE);
    }

    /** Promise 17: "NONE: not all could sail (i = -1)": some HULL that has a VOYAGE MAY sail under no NAME. */
    private static void notAllCouldSail() {
        for (int h = 0; h < 6; h++) {
            LentNames port = fleet(31, 1, 1, 1, 1, 1, 1);
            port.hull(h, 0, 0);
            voyages(port, NONE, NONE, NONE, NONE, NONE, NONE, NONE);
            letGo(port, NONE, NONE);
            port.hull(h, 1, 0);
            due("voyages(-1)", port.voyages(-1), 1);
            due("voyages(" + h + ")", port.voyages(h), NONE);
            letGo(port, 0, 2);
        }
    }

    /** Promise 17: "OUTSIDE: i -1 to 5." */
    private static void voyagesRefused() {
        for (int i : Edges.NUMBERS) {
            int want = i < -1 || i > 5 ? OUTSIDE : i == -1 ? 0 : NONE;
            due("voyages(" + i + ")", new LentNames().voyages(i), want);
        }
        for (int i : new int[] {LEAST, LEAST + 1, -6, -3, -2, 6, 7, 256, 65536, GREATEST - 1, GREATEST}) {
            edges.refused("voyages(" + i + ")", p -> p.voyages(i), OUTSIDE);
        }
    }

    // ---- promise 18

    /** "LET GO: the NAME (of all five) without which those days are least, the least": no VOYAGE. */
    private static void letGoOfNoVoyage() {
        letGo(new LentNames(), 0, 0);
        letGo(fleet(0, 0, 0, 0, 0, 0, 0), 0, 0);
    }

    /** "without which those days are least, the least": each NAME; of some by which they are, the least. */
    private static void letGoOfEach() {
        for (int n = 0; n < 5; n++) {
            // HULL h MAY sail under each NAME but n under its own one alone: without n nothing is lost
            LentNames port = new LentNames();
            int h = 0;
            for (int other = 0; other < 5; other++) {
                if (other != n) {
                    port.hull(h, 0, 1 << other);
                    port.hull(h, 1, 5);
                    h++;
                }
            }
            letGo(port, n, 5);
        }
        LentNames port = fleet(31, 9, 9, 9, 9, 0, 0);
        letGo(port, 0, 9);
        port.hull(0, 0, 1);
        letGo(port, 1, 9);
        port.hull(4, 1, 1);
        letGo(port, 1, 10);
        // without d ten days, without any other nineteen
        LentNames one = fleet(31, 9, 9, 9, 9, 9, 9);
        for (int h = 0; h < 6; h++) {
            one.hull(h, 0, h == 5 ? 2 : 31 - 8);
            one.hull(h, 1, h == 5 ? 1 : h == 4 ? 0 : 9);
        }
        letGo(one, 3, 10);
    }

    /** "NONE: not all could sail.": a NAME that some HULL can not do without is kept; all five are. */
    private static void letGoNone() {
        LentNames port = new LentNames();
        for (int h = 0; h < 5; h++) {
            port.hull(h, 0, 1 << h);
            port.hull(h, 1, 9 - h);
            letGo(port, h < 4 ? h + 1 : NONE, h < 4 ? 9 : NONE);
        }
        due("voyages(-1)", port.voyages(-1), 9);
        port.hull(4, 1, 0);
        letGo(port, 4, 9);
    }

    /** Promise 18: "OUTSIDE." */
    private static void letGoRefused() {
        for (int what : NOT_0_OR_1) {
            edges.refused("letGo(" + what + ")", p -> p.letGo(what), OUTSIDE);
        }
        for (int what : Edges.NUMBERS) {
            due("letGo(" + what + ")", new LentNames().letGo(what), what == 0 || what == 1 ? 0 : OUTSIDE);
        }
    }

    // ---- promises 19 and 20

    private static BigInteger hundred(int days) {
        return BigInteger.valueOf(100).pow(days);
    }

    private static BigInteger homeOfHundred(int luck, int days) {
        return BigInteger.valueOf(90 + luck).pow(days);
    }

    /** "from k days (1 to 7): each day it is lost with a chance of (10 less LUCK) by 100": each LUCK, each number of days. */
    private static void homeOfEach() {
        for (int luck = 0; luck <= 10; luck++) {
            for (int n = 0; n < 5; n++) {
                LentNames port = new LentNames();
                port.luck(n, luck);
                for (int days = 1; days <= 7; days++) {
                    BigInteger common = homeOfHundred(luck, days).gcd(hundred(days));
                    String call = "LUCK " + luck + " home(" + n + ", " + days + ", ";
                    due(call + "0)", port.home(n, days, 0), homeOfHundred(luck, days).divide(common).longValueExact());
                    due(call + "1)", port.home(n, days, 1), hundred(days).divide(common).longValueExact());
                }
            }
        }
    }

    /** "Fractions are told in lowest terms by part: 0 the upper, 1 the lower number": 1 by 1 at LUCK 10, 9 by 10 at 0. */
    private static void lowestTerms() {
        LentNames port = new LentNames();
        due("LUCK 5 home(0, 1, 0)", port.home(0, 1, 0), 19);
        due("LUCK 5 home(0, 1, 1)", port.home(0, 1, 1), 20);
        port.luck(0, 10);
        due("LUCK 10 home(0, 7, 0)", port.home(0, 7, 0), 1);
        due("LUCK 10 home(0, 7, 1)", port.home(0, 7, 1), 1);
        port.luck(0, 0);
        due("LUCK 0 home(0, 7, 0)", port.home(0, 7, 0), 4782969);
        due("LUCK 0 home(0, 7, 1)", port.home(0, 7, 1), 10000000);
        port.luck(0, 9);
        due("LUCK 9 home(0, 7, 0)", port.home(0, 7, 0), 93206534790699L);
        due("LUCK 9 home(0, 7, 1)", port.home(0, 7, 1), 100000000000000L);
    }

    /** "refused with LOST and the refusal" and promise 19: "HOME. UNKNOWN; OUTSIDE.", in this order. */
    private static void homeRefused() {
        for (int n : Edges.NO_NAMES) {
            edges.refused("home(" + n + ", 1, 0)", p -> p.home(n, 1, 0), LOST + UNKNOWN);
            edges.refused("home(" + n + ", 0, 0)", p -> p.home(n, 0, 0), LOST + UNKNOWN);
            edges.refused("home(" + n + ", 1, 2)", p -> p.home(n, 1, 2), LOST + UNKNOWN);
        }
        for (int days : new int[] {LEAST, LEAST + 1, -7, -1, 0, 8, 9, 60, 256, 65536, GREATEST - 1, GREATEST}) {
            edges.refused("home(4, " + days + ", 0)", p -> p.home(4, days, 0), LOST + OUTSIDE);
            edges.refused("home(4, " + days + ", 2)", p -> p.home(4, days, 2), LOST + OUTSIDE);
        }
        for (int part : NOT_0_OR_1) {
            edges.refused("home(0, 7, " + part + ")", p -> p.home(0, 7, part), LOST + OUTSIDE);
        }
        for (int n : Edges.FEW) {
            for (int days : Edges.FEW) {
                for (int part : Edges.FEW) {
                    boolean name = Edges.within(n, 0, 4);
                    boolean good = name && Edges.within(days, 1, 7) && Edges.within(part, 0, 1);
                    long want = part == 0 ? (long) Math.pow(19, days) : (long) Math.pow(20, days);
                    due("home(" + n + ", " + days + ", " + part + ")", new LentNames().home(n, days, part),
                        good ? want : LOST + (name ? OUTSIDE : UNKNOWN));
                }
            }
        }
        due("LOST and UNKNOWN", new LentNames().home(5, 1, 0), -1000000000000000001L);
        due("LOST and OUTSIDE", new LentNames().home(0, 8, 0), -1000000000000000002L);
    }

    /** "ASKS: [..] a cargo of v (0 to 999): v times the chance that it does not come home, cut up to whole ones." */
    private static void asksOfEach() {
        for (int luck = 0; luck <= 10; luck++) {
            for (int days = 1; days <= 7; days++) {
                BigInteger lost = hundred(days).subtract(homeOfHundred(luck, days));
                LentNames port = new LentNames();
                for (int v = 0; v <= 999; v++) {
                    if (v % 500 == 0) {
                        port = new LentNames();
                        port.luck(v % 5, luck);
                    }
                    BigInteger[] cut = lost.multiply(BigInteger.valueOf(v)).divideAndRemainder(hundred(days));
                    long want = cut[0].longValueExact() + cut[1].signum();
                    due("LUCK " + luck + " asks(0, " + days + ", " + v + ")", port.asks(0, days, v), want);
                }
            }
        }
    }

    /** "cut up to whole ones": a whole one stays, the least more is one more; nothing for no cargo, nothing at LUCK 10. */
    private static void cutUp() {
        for (int n = 0; n < 5; n++) {
            LentNames port = new LentNames();
            due("asks of no cargo", port.asks(n, 1, 0), 0);
            due("asks of 0.05", port.asks(n, 1, 1), 1);
            due("asks of 0.95", port.asks(n, 1, 19), 1);
            due("asks of 1", port.asks(n, 1, 20), 1);
            due("asks of 1.05", port.asks(n, 1, 21), 2);
            due("asks of 39", port.asks(n, 2, 400), 39);
            due("asks of 39.0975", port.asks(n, 2, 401), 40);
            port.luck(n, 9);
            due("asks of 0.01", port.asks(n, 1, 1), 1);
            due("asks of 1", port.asks(n, 1, 100), 1);
            due("asks of 9", port.asks(n, 1, 900), 9);
            due("asks of 67.86..", port.asks(n, 7, 999), 68);
            port.luck(n, 10);
            due("asks at LUCK 10", port.asks(n, 7, 999), 0);
            port.luck(n, 0);
            due("asks at LUCK 0", port.asks(n, 7, 999), 522);
        }
    }

    /** Promise 20: "ASKS. UNKNOWN; OUTSIDE.", in this order. */
    private static void asksRefused() {
        for (int n : Edges.NO_NAMES) {
            edges.refused("asks(" + n + ", 1, 1)", p -> p.asks(n, 1, 1), UNKNOWN);
            edges.refused("asks(" + n + ", 0, 1)", p -> p.asks(n, 0, 1), UNKNOWN);
            edges.refused("asks(" + n + ", 1, -1)", p -> p.asks(n, 1, -1), UNKNOWN);
        }
        for (int days : new int[] {LEAST, LEAST + 1, -7, -1, 0, 8, 9, 60, 256, 65536, GREATEST - 1, GREATEST}) {
            edges.refused("asks(4, " + days + ", 0)", p -> p.asks(4, days, 0), OUTSIDE);
            edges.refused("asks(4, " + days + ", 1000)", p -> p.asks(4, days, 1000), OUTSIDE);
        }
        for (int v : new int[] {LEAST, LEAST + 1, -65536, -1, 1000, 1001, 65536, GREATEST - 1, GREATEST}) {
            edges.refused("asks(0, 7, " + v + ")", p -> p.asks(0, 7, v), OUTSIDE);
        }
        for (int n : Edges.FEW) {
            for (int days : Edges.FEW) {
                for (int v : Edges.FEW) {
                    LentNames port = new LentNames();
                    port.luck(0, 10);
                    boolean good = Edges.within(days, 1, 7) && Edges.within(v, 0, 999);
                    int got = port.asks(n, days, v);
                    String call = "asks(" + n + ", " + days + ", " + v + ")";
                    if (!Edges.within(n, 0, 4)) {
                        due(call, got, UNKNOWN);
                    } else if (!good) {
                        due(call, got, OUTSIDE);
                    } else {
                        due(call + " is within 0 and v", got >= 0 && got <= v && (n > 0 || got == 0) ? 1 : 0, 1);
                    }
                }
            }
        }
    }

    // ---- promise 21

    /** All answers of a winter: HULLS and NAMES that DROWNED, how many came home. */
    private static void winter(LentNames port, int seed, int days, int hulls, int names, int homes) {
        String call = "winter(" + seed + ", " + days + ", ";
        due(call + "0)", port.winter(seed, days, 0), hulls);
        due(call + "1)", port.winter(seed, days, 1), names);
        due(call + "2)", port.winter(seed, days, 2), homes);
    }

    private static LentNames lucky(LentNames port, int luck) {
        for (int n = 0; n < 5; n++) {
            port.luck(n, luck);
        }
        return port;
    }

    /** "A WINTER by a seed (0 to 9999), of n days (1 to 60)": the least and the greatest of both, told by another program. */
    private static void wintersEnds() {
        int[][] known = {
            {5, 0, 1, 0, 0, 0, 0, 0, 0}, {5, 0, 60, 4, 29, 50, 4, 29, 10}, {5, 1, 60, 5, 31, 17, 5, 31, 3},
            {5, 9998, 60, 5, 31, 17, 5, 31, 4}, {5, 9999, 1, 0, 0, 0, 0, 0, 0}, {5, 9999, 2, 0, 0, 1, 0, 0, 0},
            {5, 9999, 60, 5, 31, 47, 5, 31, 7}, {0, 0, 2, 2, 9, 1, 2, 9, 0}, {0, 0, 60, 5, 31, 17, 5, 31, 3},
            {0, 1, 1, 1, 4, 0, 1, 4, 0}, {0, 9999, 60, 5, 31, 10, 5, 31, 0}, {10, 0, 1, 0, 0, 0, 0, 0, 0},
            {10, 0, 59, 0, 0, 131, 0, 0, 30}, {10, 0, 60, 0, 0, 132, 0, 0, 30}, {10, 9999, 60, 0, 0, 132, 0, 0, 30}};
        for (int[] k : known) {
            winter(lucky(fleet(31, 1, 2, 3, 4, 5, 6), k[0]), k[1], k[2], k[3], k[4], k[5]);
            winter(lucky(fleet(31, 9, 9, 9, 9, 9, 9), k[0]), k[1], k[2], k[6], k[7], k[8]);
        }
    }

    /** "(0: never)": who has no VOYAGE, or MAY sail under no NAME, stays at home and draws nothing. */
    private static void neverSails() {
        for (int seed : new int[] {0, 1, 9999}) {
            winter(new LentNames(), seed, 60, 0, 0, 0);
            winter(lucky(new LentNames(), 0), seed, 60, 0, 0, 0);
            winter(lucky(fleet(0, 9, 9, 9, 9, 9, 9), 0), seed, 60, 0, 0, 0);
        }
        // the first draw from 279 is 20999, the second 2111: HULL 5 draws the first though five are before it
        LentNames port = lucky(fleet(31, 0, 0, 0, 0, 0, 9), 0);
        winter(port, 279, 3, 0, 0, 0);
        winter(port, 279, 4, 1, 1, 0);
        port.hull(2, 0, 0);
        port.hull(2, 1, 9);
        winter(port, 279, 3, 0, 0, 0);
        winter(port, 279, 4, 1, 1, 0);
    }

    /** "x becomes (75 x and 74) left over by 65537; x left over by 100 below 10 less LUCK: it DROWNS": each seed, each LUCK. */
    private static void firstDraw() {
        LentNames port = new LentNames();
        for (int luck = 0; luck <= 10; luck++) {
            for (int seed = 0; seed <= 9999; seed++) {
                if (seed % 200 == 0) {
                    port = lucky(fleet(31, 9, 0, 0, 0, 0, 0), luck);
                }
                int x = (75 * seed + 74) % 65537;
                int drowned = x % 100 < 10 - luck ? 1 : 0;
                due("LUCK " + luck + " winter(" + seed + ", 1, 0)", port.winter(seed, 1, 0), drowned);
                due("LUCK " + luck + " winter(" + seed + ", 1, 1)", port.winter(seed, 1, 1), drowned);
            }
        }
    }

    /** "each day, first who is due comes home" and promise 21: "how many times some HULL came home": one HULL from day to day, each seed. */
    private static void dayByDay() {
        for (int seed = 0; seed <= 9999; seed++) {
            int k = seed % 9 + 1;
            int luck = seed % 4 + 6;
            LentNames port = lucky(fleet(31, 0, 0, k, 0, 0, 0), luck);
            long x = seed;
            int homes = 0;
            int drowned = 0;
            int asked = seed % 61 == 0 ? 60 : seed % 60 + 1;
            for (int day = 0; day < asked && drowned == 0; day++) {
                homes += day > 0 && day % k == 0 ? 1 : 0;
                x = (75 * x + 74) % 65537;
                drowned = x % 100 < 10 - luck ? 1 : 0;
            }
            winter(port, seed, asked, drowned, drowned, homes);
        }
    }

    /** "for each HULL at sea by numbers": two of them draw one behind the other, each by the LUCK of its NAME. */
    private static void byNumbers() {
        for (int seed = 0; seed <= 9999; seed++) {
            LentNames port = fleet(31, 0, 9, 0, 0, 9, 0);
            port.luck(0, 2);
            port.luck(1, 4);
            int first = (75 * seed + 74) % 65537;
            int second = (75 * first + 74) % 65537;
            int names = (first % 100 < 8 ? 1 : 0) + (second % 100 < 6 ? 2 : 0);
            winter(port, seed, 1, Integer.bitCount(names), names, 0);
        }
    }

    /** "first who is due comes home, then HULLS at home by numbers sail under the least NAME at home that they MAY" */
    private static void setOut() {
        LentNames port = lucky(fleet(31, 1, 1, 1, 1, 1, 1), 10);
        // the sixth HULL never gets a NAME: the five are at home before it each day
        winter(port, 0, 1, 0, 0, 0);
        winter(port, 0, 2, 0, 0, 5);
        winter(port, 0, 60, 0, 0, 295);
        // one NAME alone: the others wait till it is at home, HULL 0 takes it again first
        winter(lucky(fleet(8, 3, 1, 1, 1, 1, 1), 10), 0, 60, 0, 0, 19);
        winter(lucky(fleet(8, 3, 1, 1, 1, 1, 1), 10), 0, 4, 0, 0, 1);
        winter(lucky(fleet(8, 3, 1, 1, 1, 1, 1), 10), 0, 3, 0, 0, 0);
        // under the least NAME that it MAY: that alone has no LUCK
        for (int n = 0; n < 5; n++) {
            LentNames least = lucky(fleet(31, 0, 0, 0, 9, 0, 0), 10);
            least.hull(3, 0, 31 >> n << n);
            least.luck(n, 0);
            winter(least, 279, 4, 1, 1 << n, 0);
            least.luck(n, 10);
            winter(least, 279, 60, 0, 0, 6);
        }
    }

    /** "it DROWNS with its NAME": neither sails again, others take no NAME that has DROWNED. */
    private static void drownedStay() {
        // HULL 0 drowns on day 3; its NAME alone is left to HULL 1, which never sails
        LentNames port = lucky(fleet(2, 9, 1, 0, 0, 0, 0), 0);
        winter(port, 279, 3, 0, 0, 0);
        for (int days : new int[] {4, 5, 12, 60}) {
            winter(port, 279, days, 1, 2, 0);
        }
        // it came home once before
        port = lucky(fleet(2, 3, 0, 0, 0, 0, 0), 0);
        winter(port, 279, 4, 1, 2, 1);
        winter(port, 279, 60, 1, 2, 1);
    }

    /** Promise 21: "OUTSIDE.": seed, days, what. */
    private static void winterRefused() {
        for (int seed : new int[] {LEAST, LEAST + 1, -1, 10000, 10001, 65536, 65537, GREATEST - 1, GREATEST}) {
            edges.refused("winter(" + seed + ", 1, 0)", p -> p.winter(seed, 1, 0), OUTSIDE);
        }
        for (int days : new int[] {LEAST, LEAST + 1, -60, -1, 0, 61, 62, 256, 65536, GREATEST - 1, GREATEST}) {
            edges.refused("winter(0, " + days + ", 0)", p -> p.winter(0, days, 0), OUTSIDE);
        }
        for (int what : new int[] {LEAST, LEAST + 1, -6, -2, -1, 3, 4, 256, 65536, GREATEST - 1, GREATEST}) {
            edges.refused("winter(0, 1, " + what + ")", p -> p.winter(0, 1, what), OUTSIDE);
        }
        for (int seed : Edges.FEW) {
            for (int days : Edges.FEW) {
                for (int what : Edges.FEW) {
                    boolean good = Edges.within(seed, 0, 9999) && Edges.within(days, 1, 60)
                        && Edges.within(what, 0, 2);
                    due("winter(" + seed + ", " + days + ", " + what + ")", new LentNames().winter(seed, days, what),
                        good ? 0 : OUTSIDE);
                }
            }
        }
    }

    /** Promise 21: "A WINTER: HULLS that DROWNED [..]" tells, and changes nothing: the LOG and the next WINTER are as before. */
    private static void winterChangesNothing() {
        LentNames port = Edges.harbour(Edges.GOOD);
        LentNames other = Edges.harbour(Edges.GOOD);
        port.winter(1, 60, 0);
        due("all after a winter", Edges.allOf(port).equals(Edges.allOf(other)) ? 1 : 0, 1);
        LentNames twice = lucky(fleet(31, 9, 9, 9, 9, 9, 9), 5);
        winter(twice, 1, 60, 5, 31, 3);
        winter(twice, 0, 60, 4, 29, 10);
        winter(twice, 1, 60, 5, 31, 3);
    }

    // ---- promises 22 to 24

    /** What an object tells but for its PAD, as one text. */
    private static String kept(LentNames port) {
        StringBuilder all = new StringBuilder();
        for (int what = 10; what < 130; what++) {
            all.append(port.told(what)).append(' ');
        }
        return all.toString();
    }

    private static final String FIRST = kept(new LentNames());
    private static final String SET_0 = kept(Edges.set(new LentNames(), 0));
    private static final String SET_1 = kept(Edges.set(new LentNames(), 1));

    private static void isKept(String when, LentNames port, String want) {
        due(when, kept(port).equals(want) ? 1 : 0, 1);
    }

    /** Promise 22: "All but the PAD is kept in an IMAGE (0, 1): 1.", and nothing changes by it. */
    private static void imageKeepsAll() {
        for (int n = 0; n < 2; n++) {
            LentNames port = Edges.set(Edges.told("Aa1"), 0);
            due("image(" + n + ")", port.image(n), 1);
            isKept("image changes nothing", port, SET_0);
            due("signs after an image", port.told(0), 3);
            Edges.set(port, 1);
            isKept("what is set behind an image", port, SET_1);
            due("restore(" + n + ")", port.restore(n), 1);
            isKept("what the image kept", port, SET_0);
        }
        // of a new object, too
        LentNames port = new LentNames();
        port.image(0);
        Edges.set(port, 0);
        port.restore(0);
        isKept("what a new object kept", port, FIRST);
    }

    /** "All but the PAD": the PAD stays as it is, empty, full or with a FAULT. */
    private static void padStays() {
        for (String log : new String[] {"", "Aa1", "A", Edges.dots(48)}) {
            LentNames port = Edges.told("Bb2.");
            port.image(1);
            Edges.tell(port, log);
            due("restore(1)", port.restore(1), 1);
            due("signs after restore", port.told(0), log.length());
            due("fault() after restore", port.fault(), log.equals("A") ? 1 : NONE);
        }
    }

    /** Promise 22: "an IMAGE (0, 1)": two, each for itself; one is kept anew over itself. */
    private static void twoImages() {
        LentNames port = Edges.set(new LentNames(), 0);
        port.image(0);
        Edges.set(port, 1);
        port.image(1);
        due("restore(0)", port.restore(0), 1);
        isKept("image 0", port, SET_0);
        due("restore(1)", port.restore(1), 1);
        isKept("image 1", port, SET_1);
        due("image(0) anew", port.image(0), 1);
        due("restore(0)", port.restore(0), 1);
        isKept("image 0 anew", port, SET_1);
    }

    /** Promise 23: "It is as it was when it was kept: 1.": once more, too, whatever was set since. */
    private static void restoredTwice() {
        LentNames port = Edges.set(new LentNames(), 0);
        port.image(1);
        port.luck(0, 9);
        due("restore(1)", port.restore(1), 1);
        isKept("image 1", port, SET_0);
        port.hull(0, 0, 1);
        port.hull(0, 1, 9);
        port.luck(0, 9);
        port.rank(0, 54321);
        port.worth(0, 0, 99);
        due("restore(1)", port.restore(1), 1);
        isKept("image 1 once more", port, SET_0);
    }

    /** Promise 22: "OUTSIDE."; promise 23: "OUTSIDE; STATE": where both would. */
    private static void imagesRefused() {
        for (int n : NOT_0_OR_1) {
            edges.refused("image(" + n + ")", p -> p.image(n), OUTSIDE);
            edges.refused("restore(" + n + ")", p -> p.restore(n), OUTSIDE);
        }
        for (int n : Edges.NUMBERS) {
            boolean good = n == 0 || n == 1;
            due("image(" + n + ")", new LentNames().image(n), good ? 1 : OUTSIDE);
            due("restore(" + n + ")", new LentNames().restore(n), good ? STATE : OUTSIDE);
        }
    }

    /** Promise 23: "STATE: it was not.": none was kept, the other one was. */
    private static void imageNotKept() {
        for (int image = 0; image < 2; image++) {
            final int n = image;
            LentNames port = new LentNames();
            due("restore(" + n + ")", port.restore(n), STATE);
            port.image(1 - n);
            due("restore(" + n + ") when the other was kept", port.restore(n), STATE);
            due("restore of the other", port.restore(1 - n), 1);
            due("restore(" + n + ") still", port.restore(n), STATE);
            port.image(n);
            due("restore(" + n + ") when it was kept", port.restore(n), 1);
            edges.refusedIn(Edges.NEW, "restore(" + n + ")", p -> p.restore(n), STATE);
            edges.refusedIn(Edges.FULL_PAD, "restore(" + n + ")", p -> p.restore(n), STATE);
        }
        edges.refusedIn(Edges.GOOD, "restore(1)", p -> p.restore(1), STATE);
        edges.refusedIn(Edges.BROKEN, "restore(0)", p -> p.restore(0), STATE);
    }

    /** Promise 24: "0 signs, 10 to 15 MAY [..], 20 to 25 VOYAGES, 30 to 34 LUCK, 40 to 44 RANKS, 100 [..]: WORTH. OUTSIDE." */
    private static void told() {
        for (int what : Edges.NUMBERS) {
            int want = what == 0 ? 0 : Edges.within(what, 10, 15) ? 31 : Edges.within(what, 20, 25) ? 0
                : Edges.within(what, 30, 34) ? 5 : Edges.within(what, 40, 44) ? 12345
                : Edges.within(what, 100, 129) ? 10 : OUTSIDE;
            due("told(" + what + ")", new LentNames().told(what), want);
        }
        for (int what : new int[] {LEAST, -10, -1, 1, 9, 16, 19, 26, 29, 35, 39, 45, 99, 130, 256, 65536, GREATEST}) {
            edges.refused("told(" + what + ")", p -> p.told(what), OUTSIDE);
        }
    }

    /** Promise 24: "100 and 5 times a HULL and a NAME: WORTH", and each other number: of its own HULL or NAME. */
    private static void toldOfEach() {
        LentNames port = new LentNames();
        for (int h = 0; h < 6; h++) {
            port.hull(h, 0, 20 + h);
            port.hull(h, 1, 9 - h);
            for (int n = 0; n < 5; n++) {
                port.worth(h, n, 40 + 5 * h + n);
                port.luck(n, 10 - n);
                port.rank(n, rowFrom(n));
            }
        }
        for (int i = 0; i < 30; i++) {
            due("told(100 and " + i + ")", port.told(100 + i), 40 + i);
            due("told(10 and " + i % 6 + ")", port.told(10 + i % 6), 20 + i % 6);
            due("told(20 and " + i % 6 + ")", port.told(20 + i % 6), 9 - i % 6);
            due("told(30 and " + i % 5 + ")", port.told(30 + i % 5), 10 - i % 5);
            due("told(40 and " + i % 5 + ")", port.told(40 + i % 5), rowFrom(i % 5));
        }
    }

    /** A row that begins with a HULL, the others by numbers behind it. */
    private static int rowFrom(int hull) {
        int row = hull;
        for (int other = 0; other < 6; other++) {
            row = other == hull ? row : row * 10 + other;
        }
        return row;
    }

    public static void main(String[] args) {
        noVoyage();
        oneVoyage();
        underWhatItMay();
        behindAnother();
        leastDays();
        firstNames();
        notAllCouldSail();
        voyagesRefused();
        letGoOfNoVoyage();
        letGoOfEach();
        letGoNone();
        letGoRefused();
        homeOfEach();
        lowestTerms();
        homeRefused();
        asksOfEach();
        cutUp();
        asksRefused();
        wintersEnds();
        neverSails();
        firstDraw();
        dayByDay();
        byNumbers();
        setOut();
        drownedStay();
        winterRefused();
        winterChangesNothing();
        imageKeepsAll();
        padStays();
        twoImages();
        restoredTwice();
        imagesRefused();
        imageNotKept();
        told();
        toldOfEach();
        edges.end("VoyageEdgesTest");
    }
}
