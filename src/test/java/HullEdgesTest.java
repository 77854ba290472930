/** Edges of hulls, names, pads, faults and judging (promises 1 to 9): each test stands for the sentence in its remark. */
public final class HullEdgesTest {
    private static final int NONE = Edges.NONE, UNKNOWN = Edges.UNKNOWN, OUTSIDE = Edges.OUTSIDE, STATE = Edges.STATE,
        FULL = Edges.FULL, NO = Edges.NO;
    private static final int LEAST = Edges.LEAST, GREATEST = Edges.GREATEST;
    private static final Edges edges = new Edges();

    private static void due(String call, long got, long want) {
        edges.due(call, got, want);
    }

    // ---- what holds for all calls

    /** "An object is used for at most 512 calls after it has been made": the 512th is answered as any other. */
    private static void lastCall() {
        LentNames port = new LentNames();
        for (int call = 1; call <= 511; call++) {
            port.luck(0, call % 10 + 1);
        }
        due("luck as call 512", port.luck(0, 0), 511 % 10 + 1);
        LentNames wiped = new LentNames();
        for (int call = 1; call <= 462; call++) {
            wiped.wipe();
        }
        for (int sign = 1; sign <= 48; sign++) {
            due("say as call " + (462 + sign), wiped.say('.'), sign);
        }
        due("say as call 511", wiped.say('.'), FULL);
        due("log(0) as call 512", wiped.log(0), 48);
    }

    /** "NONE = -6, DROWNED = -7, UNKNOWN = -1, OUTSIDE = -2, STATE = -3, FULL = -4, NO = -5" and LOST */
    private static void constants() {
        due("NONE", LentNames.NONE, -6);
        due("DROWNED", LentNames.DROWNED, -7);
        due("UNKNOWN", LentNames.UNKNOWN, -1);
        due("OUTSIDE", LentNames.OUTSIDE, -2);
        due("STATE", LentNames.STATE, -3);
        due("FULL", LentNames.FULL, -4);
        due("NO", LentNames.NO, -5);
        due("LOST", LentNames.LOST, -1000000000000000000L);
    }

    /** "Calls that are refused answer, the first of these that fits: UNKNOWN -1 [..], OUTSIDE -2": where both would. */
    private static void unknownBeforeOutside() {
        edges.refused("hull(6, 2, 32)", p -> p.hull(6, 2, 32), UNKNOWN);
        edges.refused("luck(5, 11)", p -> p.luck(5, 11), UNKNOWN);
        edges.refused("worth(6, 0, 100)", p -> p.worth(6, 0, 100), UNKNOWN);
        edges.refused("worth(0, 5, 100)", p -> p.worth(0, 5, 100), UNKNOWN);
        edges.refused("rank(5, 0)", p -> p.rank(5, 0), UNKNOWN);
        edges.refused("asks(5, 0, 1000)", p -> p.asks(5, 0, 1000), UNKNOWN);
        edges.refused("home(5, 8, 2)", p -> p.home(5, 8, 2), Edges.LOST + UNKNOWN);
    }

    /** "OUTSIDE -2 (another number is not as told), NO -5 (as told)": where both would. */
    private static void outsideBeforeNo() {
        edges.refusedIn(Edges.BROKEN, "judge(2)", p -> p.judge(2), OUTSIDE);
        edges.refusedIn(Edges.BROKEN, "log(45)", p -> p.log(45), OUTSIDE);
    }

    /** "NO -5 (as told), STATE -3 (as told)": where both would, by some ? and by a PART that can not be. */
    private static void noBeforeState() {
        for (String log : new String[] {"?a1A", "?a1!", "!aA", "Aa2Ba1?", "!a0"}) {
            due("judge(0) of " + log, Edges.told(log).judge(0), NO);
            due("judge(1) of " + log, Edges.told(log).judge(1), NO);
            due("log(0) of " + log, Edges.told(log).log(0), NO);
            due("who(0, 0) of " + log, Edges.told(log).who(0, 0), NO);
            due("could(0, 0) of " + log, Edges.told(log).could(0, 0), NO);
            due("filled(-1) of " + log, Edges.told(log).filled(-1), NO);
        }
    }

    /** "OUTSIDE -2 [..], FULL -4": where both would. */
    private static void outsideBeforeFull() {
        edges.refusedIn(Edges.FULL_PAD, "say(32)", p -> p.say(32), OUTSIDE);
        edges.refusedIn(Edges.FULL_PAD, "say(127)", p -> p.say(127), OUTSIDE);
    }

    /** "They change nothing.": refused calls of all kinds one behind the other, in every state. */
    private static void refusedInARow() {
        Edges.Call row = p -> {
            long sum = p.hull(6, 0, 0) + p.hull(0, 0, 32) + p.hull(0, 1, 10) + p.hull(0, 2, 1) + p.luck(5, 1);
            sum += p.luck(0, 11) + p.worth(6, 0, 1) + p.worth(0, 5, 1) + p.worth(0, 0, 100) + p.rank(5, 543210);
            sum += p.rank(0, 543211) + p.say(32) + p.say(127) + p.judge(2) + p.log(9) + p.who(5, 0) + p.who(0, -1);
            sum += p.who(0, 49) + p.could(5, 0) + p.could(0, -1) + p.could(0, 49) + p.most(64, 31, 0);
            sum += p.most(63, 32, 0) + p.stable(64, 31, 0) + p.stable(63, 32, 0) + p.leave(64, 31, 0, 0);
            sum += p.leave(63, 31, 0, 2) + p.leave(63, 31, -1, 0) + p.voyages(6) + p.letGo(2) + p.asks(5, 1, 1);
            sum += p.asks(0, 8, 1) + p.asks(0, 1, 1000) + p.winter(10000, 1, 0) + p.winter(0, 61, 0);
            return sum + p.winter(0, 1, 3) + p.image(2) + p.restore(2) + p.told(130);
        };
        for (int s = 0; s < Edges.HARBOURS; s++) {
            // a FAULT comes before a day behind the last one
            int want = 12 * UNKNOWN + 26 * OUTSIDE + STATE + (s == Edges.BROKEN ? 2 * (NO - UNKNOWN) : 0);
            edges.refusedIn(s, "refused calls, summed up", row, want);
        }
    }

    /** "They change nothing.": neither do calls that only tell, in every state. */
    private static void askedInARow() {
        for (int s = 0; s < Edges.HARBOURS; s++) {
            LentNames port = Edges.harbour(s);
            int sum = port.fault() + port.judge(0) + port.log(0) + port.who(0, 0) + port.filled(-1) + port.could(0, 0)
                + port.most(63, 31, 0) + port.stable(63, 31, 0) + port.leave(63, 31, 0, 0) + port.voyages(-1)
                + port.letGo(0) + port.asks(0, 7, 999) + port.winter(9999, 60, 0) + port.told(0)
                + (int) port.home(0, 7, 0);
            due("told by one that was asked, sum " + sum,
                Edges.allOf(port).equals(Edges.allOf(Edges.harbour(s))) ? 1 : 0, 1);
        }
    }

    /** "HULLS 0 to 5 (A to F)": the number of a HULL and its letter are one. */
    private static void letterOfHull() {
        for (int h = 0; h < 6; h++) {
            LentNames port = new LentNames();
            port.hull(h, 0, 30);
            for (int other = 0; other < 6; other++) {
                Edges.tell(port, (char) ('A' + other) + "a1");
                due("judge(1) of hull " + other, port.judge(1), other == h ? 5 : NONE);
                due("log(20) of hull " + other, port.log(20), other == h ? STATE : other);
            }
        }
    }

    /** "NAMES 0 to 4 (a to e)": the number of a NAME, its bit in MAY and its letter are one. */
    private static void letterOfName() {
        for (int n = 0; n < 5; n++) {
            LentNames port = new LentNames();
            port.hull(5, 0, 1 << n);
            for (int other = 0; other < 5; other++) {
                Edges.tell(port, "F" + (char) ('a' + other) + "1");
                due("judge(1) of name " + other, port.judge(1), other == n ? NONE : 5);
                due("log(15) of name " + other, port.log(15), other == n ? n : STATE);
            }
        }
    }

    // ---- promises 1 to 5

    private static void isNew(String which, LentNames port) {
        due(which + " signs", port.told(0), 0);
        for (int h = 0; h < 6; h++) {
            due(which + " MAY of " + h, port.told(10 + h), 31);
            due(which + " VOYAGE of " + h, port.told(20 + h), 0);
            for (int n = 0; n < 5; n++) {
                due(which + " WORTH of " + n + " to " + h, port.told(100 + 5 * h + n), 10);
            }
        }
        for (int n = 0; n < 5; n++) {
            due(which + " LUCK of " + n, port.told(30 + n), 5);
            due(which + " RANK of " + n, port.told(40 + n), 12345);
        }
        due(which + " restore(0)", port.restore(0), STATE);
        due(which + " restore(1)", port.restore(1), STATE);
        due(which + " fault()", port.fault(), NONE);
        due(which + " log(0)", port.log(0), 0);
    }

    /** Promise 1, "All MAY sail under all NAMES", and all that is so "at first". */
    private static void newObject() {
        LentNames port = new LentNames();
        isNew("a new object's", port);
        Edges.set(port, 1).image(0);
        port.image(1);
        Edges.tell(port, "Aa9");
        isNew("an object's made later", new LentNames());
        due("MAY of the first", port.told(10), 27);
        due("signs of the first", port.told(0), 3);
    }

    /** "bits 0 to 31; 31 at first" and "MAY of a HULL (what = 0) [..]: which it was" */
    private static void mayIsTaken() {
        for (int h = 0; h < 6; h++) {
            final int hull = h;
            LentNames port = new LentNames();
            int was = 31;
            for (int v : new int[] {0, 31, 1, 30, 16, 15, 2, 4, 8, 31, 31, 0}) {
                due("hull(" + h + ", 0, " + v + ")", port.hull(h, 0, v), was);
                due("MAY of " + h, port.told(10 + h), v);
                was = v;
            }
            edges.refused("hull(" + h + ", 0, -1)", p -> p.hull(hull, 0, -1), OUTSIDE);
            edges.refused("hull(" + h + ", 0, 32)", p -> p.hull(hull, 0, 32), OUTSIDE);
        }
        edges.refused("hull(1, 0, LEAST)", p -> p.hull(1, 0, LEAST), OUTSIDE);
        edges.refused("hull(1, 0, GREATEST)", p -> p.hull(1, 0, GREATEST), OUTSIDE);
    }

    /** "its VOYAGE (1; days 0 to 9): which it was" */
    private static void voyageIsTaken() {
        for (int h = 0; h < 6; h++) {
            final int hull = h;
            LentNames port = new LentNames();
            int was = 0;
            for (int v : new int[] {9, 0, 0, 1, 8, 9, 9, 5}) {
                due("hull(" + h + ", 1, " + v + ")", port.hull(h, 1, v), was);
                due("VOYAGE of " + h, port.told(20 + h), v);
                was = v;
            }
            edges.refused("hull(" + h + ", 1, -1)", p -> p.hull(hull, 1, -1), OUTSIDE);
            edges.refused("hull(" + h + ", 1, 10)", p -> p.hull(hull, 1, 10), OUTSIDE);
        }
        edges.refused("hull(1, 1, LEAST)", p -> p.hull(1, 1, LEAST), OUTSIDE);
        edges.refused("hull(1, 1, GREATEST)", p -> p.hull(1, 1, GREATEST), OUTSIDE);
    }

    /** Promise 2: "MAY of a HULL (what = 0), its VOYAGE (1; [..])": any other what is OUTSIDE. */
    private static void hullWhat() {
        for (int w : new int[] {LEAST, -2, -1, 2, 3, 10, 256, 1 << 16, GREATEST}) {
            edges.refused("hull(0, " + w + ", 0)", p -> p.hull(0, w, 0), OUTSIDE);
        }
    }

    /** Promise 2: "UNKNOWN; OUTSIDE": no such HULL, whatever else is told. */
    private static void hullUnknown() {
        for (int h : Edges.NO_HULLS) {
            edges.refused("hull(" + h + ", 0, 0)", p -> p.hull(h, 0, 0), UNKNOWN);
            edges.refused("hull(" + h + ", 1, 10)", p -> p.hull(h, 1, 10), UNKNOWN);
            edges.refused("hull(" + h + ", 2, 0)", p -> p.hull(h, 2, 0), UNKNOWN);
        }
    }

    /** Promise 2: "MAY of a HULL (what = 0), its VOYAGE (1; days 0 to 9)": the whole range of int in each place. */
    private static void hullEverywhere() {
        for (int h : Edges.FEW) {
            for (int what : Edges.FEW) {
                for (int v : Edges.FEW) {
                    int want = h < 0 || h > 5 ? UNKNOWN : what == 0 && v >= 0 && v <= 31 ? 31
                        : what == 1 && v >= 0 && v <= 9 ? 0 : OUTSIDE;
                    due("hull(" + h + ", " + what + ", " + v + ")", new LentNames().hull(h, what, v), want);
                }
            }
        }
    }

    /** "MAY of a HULL", "LUCK of a NAME", "WORTH of a NAME to a HULL", "RANK of a NAME": set of one, of no other. */
    private static void setAlone() {
        for (int what = 0; what < 130; what++) {
            LentNames port = new LentNames();
            int before = port.told(what);
            if (what < 10 || before == OUTSIDE) {
                continue;
            }
            int v = what < 16 ? 7 : what < 26 ? 6 : what < 35 ? 2 : what < 45 ? 543210 : 77;
            int was = what < 16 ? port.hull(what - 10, 0, v) : what < 26 ? port.hull(what - 20, 1, v)
                : what < 35 ? port.luck(what - 30, v) : what < 45 ? port.rank(what - 40, v)
                : port.worth((what - 100) / 5, (what - 100) % 5, v);
            due("what told(" + what + ") was", was, before);
            LentNames other = new LentNames();
            for (int w = 0; w < 130; w++) {
                due("told(" + w + ") when " + what + " is set", port.told(w), w == what ? v : other.told(w));
            }
        }
    }

    /** "LUCK of a NAME (0 to 10; 5 at first)" */
    private static void luckIsTaken() {
        for (int n = 0; n < 5; n++) {
            final int name = n;
            LentNames port = new LentNames();
            int was = 5;
            for (int v : new int[] {0, 10, 10, 1, 9, 0, 0}) {
                due("luck(" + n + ", " + v + ")", port.luck(n, v), was);
                due("LUCK of " + n, port.told(30 + n), v);
                was = v;
            }
            edges.refused("luck(" + n + ", -1)", p -> p.luck(name, -1), OUTSIDE);
            edges.refused("luck(" + n + ", 11)", p -> p.luck(name, 11), OUTSIDE);
        }
        edges.refused("luck(1, LEAST)", p -> p.luck(1, LEAST), OUTSIDE);
        edges.refused("luck(1, GREATEST)", p -> p.luck(1, GREATEST), OUTSIDE);
    }

    /** Promise 3: "LUCK of a NAME: which it was. UNKNOWN; OUTSIDE." */
    private static void luckRefused() {
        for (int n : Edges.NO_NAMES) {
            edges.refused("luck(" + n + ", 0)", p -> p.luck(n, 0), UNKNOWN);
            edges.refused("luck(" + n + ", -1)", p -> p.luck(n, -1), UNKNOWN);
        }
        for (int n : Edges.NUMBERS) {
            for (int v : Edges.NUMBERS) {
                int want = n < 0 || n > 4 ? UNKNOWN : v < 0 || v > 10 ? OUTSIDE : 5;
                due("luck(" + n + ", " + v + ")", new LentNames().luck(n, v), want);
            }
        }
    }

    /** "WORTH of a NAME to a HULL (0 to 99; 10 at first)" */
    private static void worthIsTaken() {
        for (int i = 0; i < 30; i++) {
            int h = i / 5, n = i % 5;
            LentNames port = new LentNames();
            int was = 10;
            for (int v : new int[] {0, 99, 99, 1, 98, 0, 0}) {
                due("worth(" + h + ", " + n + ", " + v + ")", port.worth(h, n, v), was);
                due("WORTH of " + n + " to " + h, port.told(100 + i), v);
                was = v;
            }
            edges.refused("worth(" + h + ", " + n + ", -1)", p -> p.worth(h, n, -1), OUTSIDE);
            edges.refused("worth(" + h + ", " + n + ", 100)", p -> p.worth(h, n, 100), OUTSIDE);
        }
        edges.refused("worth(1, 1, LEAST)", p -> p.worth(1, 1, LEAST), OUTSIDE);
        edges.refused("worth(1, 1, GREATEST)", p -> p.worth(1, 1, GREATEST), OUTSIDE);
    }

    /** Promise 4: "WORTH of a NAME to a HULL: which it was. UNKNOWN; OUTSIDE." */
    private static void worthRefused() {
        for (int no : Edges.NO_HULLS) {
            edges.refused("worth(" + no + ", 0, 1)", p -> p.worth(no, 0, 1), UNKNOWN);
            edges.refused("worth(" + no + ", 0, -1)", p -> p.worth(no, 0, -1), UNKNOWN);
        }
        for (int no : Edges.NO_NAMES) {
            edges.refused("worth(0, " + no + ", 1)", p -> p.worth(0, no, 1), UNKNOWN);
            edges.refused("worth(1, " + no + ", 100)", p -> p.worth(1, no, 100), UNKNOWN);
        }
        for (int h : Edges.FEW) {
            for (int n : Edges.FEW) {
                for (int v : Edges.FEW) {
                    int want = h < 0 || h > 5 || n < 0 || n > 4 ? UNKNOWN : v < 0 || v > 99 ? OUTSIDE : 10;
                    due("worth(" + h + ", " + n + ", " + v + ")", new LentNames().worth(h, n, v), want);
                }
            }
        }
    }

    /** Whether a number of six digits names each of 0 to 5 once. */
    private static boolean isRow(int row) {
        if (row < 0 || row > 999999) {
            return false;
        }
        String digits = String.format("%06d", row);
        for (char hull = '0'; hull <= '5'; hull++) {
            if (digits.indexOf(hull) < 0) {
                return false;
            }
        }
        return true;
    }

    /** "RANK (a row of all six; 0, 1, .. at first)" and promise 5: "a number of six digits, each HULL once [..]: which it was (as such a number)" */
    private static void rankIsTaken() {
        int taken = 0;
        LentNames port = new LentNames();
        int was = 12345;
        for (int row = -10; row <= 1000010; row++) {
            if (row % 300 == 0) {
                port = new LentNames();
                was = 12345;
            }
            boolean good = isRow(row);
            due("rank(3, " + row + ")", port.rank(3, row), good ? was : OUTSIDE);
            if (good) {
                taken++;
                was = row;
            }
        }
        due("rows that are taken", taken, 720);
        LentNames other = new LentNames();
        due("the least row", other.rank(0, 12345), 12345);
        due("the greatest row", other.rank(0, 543210), 12345);
        due("RANK as such a number", other.told(40), 543210);
        due("a row that begins with 0", other.rank(0, 54321), 543210);
        due("RANK as such a number", other.told(40), 54321);
    }

    /** Promise 5: "UNKNOWN; OUTSIDE." */
    private static void rankRefused() {
        for (int row : new int[] {LEAST, -543210, -12345, -1, 0, 1, 12344, 12346, 2345, 112345, 123450 + 6, 543211,
            666666, 999999, 1000000, 1012345, 10012345, 1543210, GREATEST}) {
            edges.refused("rank(0, " + row + ")", p -> p.rank(0, row), OUTSIDE);
            edges.refused("rank(4, " + row + ")", p -> p.rank(4, row), OUTSIDE);
        }
        for (int n : Edges.NO_NAMES) {
            edges.refused("rank(" + n + ", 543210)", p -> p.rank(n, 543210), UNKNOWN);
            edges.refused("rank(" + n + ", -1)", p -> p.rank(n, -1), UNKNOWN);
        }
        for (int n : Edges.NUMBERS) {
            for (int row : Edges.NUMBERS) {
                int want = n < 0 || n > 4 ? UNKNOWN : isRow(row) ? 12345 : OUTSIDE;
                due("rank(" + n + ", " + row + ")", new LentNames().rank(n, row), want);
            }
        }
    }

    // ---- promises 6 and 7

    /** "48 SIGNS at most": the 48th is taken, the 49th is FULL. */
    private static void fullPad() {
        LentNames port = new LentNames();
        for (int i = 1; i <= 48; i++) {
            due("sign " + i, port.say('.'), i);
            due("signs", port.told(0), i);
        }
        due("sign 49", port.say('.'), FULL);
        due("sign 49", port.say('A'), FULL);
        due("signs", port.told(0), 48);
        due("wipe() of a full pad", port.wipe(), 48);
        due("the first sign anew", port.say('.'), 1);
        edges.refusedIn(Edges.FULL_PAD, "say(33)", p -> p.say(33), FULL);
        edges.refusedIn(Edges.FULL_PAD, "say(126)", p -> p.say(126), FULL);
        edges.refusedIn(Edges.FULL_PAD, "say('.')", p -> p.say('.'), FULL);
    }

    /** "codes 33 to 126" and promise 6: "A sign more: how many. OUTSIDE; FULL." */
    private static void codes() {
        for (int code : Edges.NUMBERS) {
            boolean good = code >= 33 && code <= 126;
            due("say(" + code + ")", new LentNames().say(code), good ? 1 : OUTSIDE);
            due("say(" + code + ") behind 47 signs", Edges.told(Edges.dots(47)).say(code), good ? 48 : OUTSIDE);
            due("say(" + code + ") on a full pad", Edges.told(Edges.dots(48)).say(code), good ? FULL : OUTSIDE);
        }
        for (int code : new int[] {LEAST, -33, -1, 0, 10, 32, 127, 128, 256 + 65, 65536 + 65, GREATEST}) {
            edges.refused("say(" + code + ")", p -> p.say(code), OUTSIDE);
        }
    }

    /** Promise 7: "Signs go: how many there were.": of an empty PAD none. */
    private static void wipe() {
        LentNames port = new LentNames();
        due("wipe() of a new object", port.wipe(), 0);
        for (int signs = 0; signs <= 12; signs++) {
            due("wipe()", Edges.tell(port, Edges.times(signs, "~")).wipe(), signs);
            due("wipe() once more", port.wipe(), 0);
            due("signs", port.told(0), 0);
            due("fault()", port.fault(), NONE);
        }
    }

    /** Promise 7: "Signs go": of those that went nothing is left, no ?, no days, nobody at sea. */
    private static void wipedLog() {
        LentNames port = Edges.told("?a1?b1?c1?d1..Aa9!a");
        port.wipe();
        due("log(0)", port.log(0), 0);
        due("judge(0)", port.judge(0), NONE);
        due("filled(-1)", port.filled(-1), 1);
        due("could(0, 0)", port.could(0, 0), 0);
        due("who(0, 1)", port.who(0, 1), UNKNOWN);
        Edges.tell(port, "?a1?b1?c1?d1");
        due("fault() of four ? anew", port.fault(), NONE);
        Edges.tell(port, "Aa1");
        due("log(20)", port.log(20), 0);
    }

    // ---- promise 8

    private static void faulty(String log, int want) {
        due("fault() of " + log, Edges.told(log).fault(), want);
    }

    /** "PARTS: a HULL (A to F, or ? [..])", ". (the next day)", "! and a NAME": what can stand where a PART begins. */
    private static void beginsPart() {
        for (int code = 33; code <= 126; code++) {
            char sign = (char) code;
            boolean begins = sign >= 'A' && sign <= 'F' || sign == '?' || sign == '!';
            for (String before : new String[] {"", ".", "Aa1", "!e", "?b9"}) {
                int place = before.length();
                faulty(before + sign, sign == '.' ? NONE : begins ? place + 1 : place);
            }
        }
    }

    /** "a NAME (a to e)": what can stand behind a HULL, behind ?, behind !. */
    private static void nameInPart() {
        for (int code = 33; code <= 126; code++) {
            char sign = (char) code;
            boolean name = sign >= 'a' && sign <= 'e';
            faulty("A" + sign, name ? 2 : 1);
            faulty("F" + sign, name ? 2 : 1);
            faulty("?" + sign, name ? 2 : 1);
            faulty("!" + sign, name ? NONE : 1);
            faulty("..!" + sign, name ? NONE : 3);
        }
    }

    /** "a digit 1 to 9": what can stand behind a HULL and a NAME. */
    private static void digitInPart() {
        for (int code = 33; code <= 126; code++) {
            char sign = (char) code;
            boolean digit = sign >= '1' && sign <= '9';
            faulty("Aa" + sign, digit ? NONE : 2);
            faulty("Fe" + sign, digit ? NONE : 2);
            faulty("?c" + sign, digit ? NONE : 2);
        }
    }

    /** "? where it is not told: 4 at most": the fifth can not stand there, a HULL that is told can. */
    private static void fifthGap() {
        faulty(Edges.times(4, "?a1"), NONE);
        faulty(Edges.times(5, "?a1"), 12);
        faulty(Edges.times(4, "?a1") + "Aa1!a.", NONE);
        faulty(Edges.times(4, "?a1") + "Aa1!a.?", 18);
        faulty(Edges.times(4, "?a1.") + "?a1", 16);
        faulty(Edges.times(3, "?a1") + "?", 10);
        faulty(Edges.times(4, "?a1") + "!?", 13);
        faulty("??", 1);
        faulty("?a?", 2);
    }

    /** "THE FAULT: the place (from 0 on) of the first sign that can not stand there": the first of some, 0 to 47. */
    private static void firstFault() {
        faulty("GG", 0);
        faulty("Aa1G", 3);
        faulty("AaAa1", 2);
        faulty("AG", 1);
        faulty("GA", 0);
        faulty("Aa1.!a1", 6);
        faulty("Aa12", 3);
        faulty("..a!", 2);
        for (int place = 0; place < 48; place++) {
            faulty(Edges.dots(place) + "a", place);
            faulty(Edges.dots(place) + "a" + Edges.dots(47 - place), place);
        }
        faulty(Edges.dots(46) + "!f", 47);
        faulty(Edges.dots(45) + "Aa0", 47);
        faulty(Edges.dots(46) + "AA", 47);
        faulty(Edges.times(4, "?a1") + Edges.dots(35) + "?", 47);
    }

    /** "the number of signs, if more must come": 1, 2, .. 48. */
    private static void moreMustCome() {
        for (int before = 0; before < 48; before++) {
            faulty(Edges.dots(before) + "A", before + 1);
            faulty(Edges.dots(before) + "?", before + 1);
            faulty(Edges.dots(before) + "!", before + 1);
            if (before < 47) {
                faulty(Edges.dots(before) + "Fe", before + 2);
                faulty(Edges.dots(before) + "?a", before + 2);
            }
        }
        LentNames port = Edges.told(Edges.dots(47) + "A");
        due("say('a') on a full pad", port.say('a'), FULL);
        due("fault() of a full pad", port.fault(), 48);
    }

    /** "(no signs are a LOG)" and promise 8: "THE FAULT; NONE." */
    private static void noFault() {
        due("fault() of a new object", new LentNames().fault(), NONE);
        faulty("", NONE);
        faulty("Aa1", NONE);
        faulty(Edges.dots(48), NONE);
        faulty(Edges.times(16, "Fe9"), NONE);
        faulty(Edges.times(24, "!e"), NONE);
        // a LOG that can not be is a LOG
        faulty("!a", NONE);
        faulty("Aa1Aa1", NONE);
    }

    // ---- promise 9

    private static void judged(LentNames port, String log, int part, int why) {
        Edges.tell(port, log);
        due("judge(0) of " + log, port.judge(0), part);
        due("judge(1) of " + log, port.judge(1), why);
    }

    private static void judged(String log, int part, int why) {
        judged(new LentNames(), log, part, why);
    }

    /** An object in which A and B may sail under one NAME each. */
    private static LentNames bound(int mayA, int mayB) {
        LentNames port = new LentNames();
        port.hull(0, 0, mayA);
        port.hull(1, 0, mayB);
        return port;
    }

    /** "all are at home on day 0": each HULL can sail under each NAME, none can drown. */
    private static void dayNought() {
        for (char hull = 'A'; hull <= 'F'; hull++) {
            for (char name = 'a'; name <= 'e'; name++) {
                judged("" + hull + name + "1", NONE, NONE);
                judged("" + hull + name + "9", NONE, NONE);
            }
        }
        for (char name = 'a'; name <= 'e'; name++) {
            judged("!" + name, 0, 4);
        }
        judged("Aa1Bb1Cc1Dd1Ee1", NONE, NONE);
    }

    /** "1 the HULL has DROWNED", also where 3, 4 or 5 would fit. */
    private static void hullDrowned() {
        judged("Aa1!aAb1", 2, 1);
        judged("Aa9!a.........Ab1", 11, 1);
        judged("Aa1!aAa1", 2, 1);
        judged("Aa1Bb1!aAb1", 3, 1);
        judged(bound(1, 31), "Aa1!aAb1", 2, 1);
        judged(bound(1, 31), "Aa1Bb1!aAb1", 3, 1);
        judged(bound(1, 31), "Aa1Bb1!a!bAb1", 4, 1);
    }

    /** "2 the HULL is at sea", also where 3, 4 or 5 would fit. */
    private static void hullAtSea() {
        judged("Aa1Ab1", 1, 2);
        judged("Aa1Aa1", 1, 2);
        judged("Aa1Bb1Ab1", 2, 2);
        judged("Aa1Bb1!bAb1", 3, 2);
        judged(bound(1, 31), "Aa1Ab1", 1, 2);
        judged(bound(1, 31), "Aa1Bb1Ab1", 2, 2);
        judged(bound(1, 31), "Aa1Bb1!bAb1", 3, 2);
    }

    /** "3 the NAME has DROWNED", also where 5 would fit; of ! as well. */
    private static void nameDrowned() {
        judged("Aa1!aBa1", 2, 3);
        judged("Aa1!a.Ba1", 3, 3);
        judged(bound(31, 2), "Aa1!aBa1", 2, 3);
        judged("Aa1!a!a", 2, 3);
        judged("Aa3!a...!a", 5, 3);
    }

    /** "4 the NAME is at sea (with !: it is at home, nobody bears it)", also where 5 would fit. */
    private static void nameAtSea() {
        judged("Aa1Ba1", 1, 4);
        judged(bound(31, 2), "Aa1Ba1", 1, 4);
        judged("Aa1!b", 1, 4);
        judged("Aa1.!a", 2, 4);
        judged("Aa1.Ba1!a", NONE, NONE);
    }

    /** "5 the HULL MAY not sail under it": for each HULL, each NAME. */
    private static void mayNot() {
        for (int h = 0; h < 6; h++) {
            for (int n = 0; n < 5; n++) {
                String log = "" + (char) ('A' + h) + (char) ('a' + n) + "1";
                LentNames port = new LentNames();
                port.hull(h, 0, 31 - (1 << n));
                judged(port, log, 0, 5);
                port.hull(h, 0, 1 << n);
                judged(port, log, NONE, NONE);
                port.hull(h, 0, 0);
                judged(port, log, 0, 5);
            }
        }
    }

    /** "Who sails on day d for k days is at home again on day d and k (and can sail on that day)." */
    private static void atHomeAgain() {
        for (int d = 0; d <= 3; d++) {
            for (int k = 1; k <= 9; k++) {
                String out = Edges.dots(d) + "Aa" + k;
                String before = out + Edges.dots(k - 1);
                int parts = d + k;
                judged(before + "Ab1", parts, 2);
                judged(before + "Ba1", parts, 4);
                judged(before + "!a", NONE, NONE);
                judged(before + ".Ab1", NONE, NONE);
                judged(before + ".Ba1", NONE, NONE);
                judged(before + ".Aa1", NONE, NONE);
                judged(before + ".!a", parts + 1, 4);
            }
        }
    }

    /** "(it DROWNS, with the HULL that bears it)": no other HULL, no other NAME. */
    private static void drownsWithHull() {
        judged("Aa1.Ab1!b.Ca1", NONE, NONE);
        judged("Aa1.Ba1!aAa1", 4, 3);
        judged("Aa1.Ba1!aAb1", NONE, NONE);
        judged("Aa1.Ba1!aBb1", 4, 1);
    }

    /** "JUDGED: the first PART (from 0 on; . is one, too) [..] that can not be, and why" */
    private static void firstPart() {
        judged("!a!bAa1Aa1", 0, 4);
        judged("Aa1Ba1Aa1", 1, 4);
        judged("Aa1.!b.!c", 2, 4);
        judged("..!a", 2, 4);
        for (int days = 0; days <= 46; days++) {
            judged(Edges.dots(days) + "!a", days, 4);
        }
        judged(Edges.dots(45) + "Aa9", NONE, NONE);
        judged(Edges.dots(42) + "Aa9Aa9", 43, 2);
    }

    /** Promise 9: "NONE: it is good." An empty LOG, a full PAD. */
    private static void goodLog() {
        judged("", NONE, NONE);
        judged(".", NONE, NONE);
        judged(Edges.dots(48), NONE, NONE);
        judged(Edges.times(3, "Aa1Bb1Cc1Dd1Ee1."), NONE, NONE);
        judged(Edges.times(2, "Aa1Bb1Cc1Dd1Ee1.") + "Aa1Bb1Cc1Dd1Fe1.", NONE, NONE);
        judged("Aa1Bb1Cc1Dd1Ee1!a!b!c!d!e", NONE, NONE);
    }

    /** Promise 9: "OUTSIDE; NO: there is a FAULT; STATE: there is some ?.", in this order. */
    private static void judgeRefused() {
        for (int what : new int[] {LEAST, LEAST + 1, -2, -1, 2, 3, 256, 1 << 16, GREATEST - 1, GREATEST}) {
            edges.refused("judge(" + what + ")", p -> p.judge(what), OUTSIDE);
        }
        for (int w = 0; w <= 1; w++) {
            final int what = w;
            edges.refusedIn(Edges.BROKEN, "judge(" + what + ")", p -> p.judge(what), NO);
            edges.refusedIn(Edges.GAPS, "judge(" + what + ")", p -> p.judge(what), STATE);
            edges.refusedIn(Edges.NO_WAY, "judge(" + what + ")", p -> p.judge(what), STATE);
            for (String log : new String[] {"?a1", "Aa1Aa1?a1", Edges.times(4, "?a1"), Edges.dots(45) + "?a1"}) {
                due("judge(" + what + ") of " + log, Edges.told(log).judge(what), STATE);
            }
            for (String log : new String[] {"A", "G", "Aa1Aa1!", Edges.times(5, "?a1"), Edges.dots(47) + "A"}) {
                due("judge(" + what + ") of " + log, Edges.told(log).judge(what), NO);
            }
        }
    }

    public static void main(String[] args) {
        lastCall();
        constants();
        unknownBeforeOutside();
        outsideBeforeNo();
        noBeforeState();
        outsideBeforeFull();
        refusedInARow();
        askedInARow();
        letterOfHull();
        letterOfName();
        newObject();
        mayIsTaken();
        voyageIsTaken();
        hullWhat();
        hullUnknown();
        hullEverywhere();
        setAlone();
        luckIsTaken();
        luckRefused();
        worthIsTaken();
        worthRefused();
        rankIsTaken();
        rankRefused();
        fullPad();
        codes();
        wipe();
        wipedLog();
        beginsPart();
        nameInPart();
        digitInPart();
        fifthGap();
        firstFault();
        moreMustCome();
        noFault();
        dayNought();
        hullDrowned();
        hullAtSea();
        nameDrowned();
        nameAtSea();
        mayNot();
        atHomeAgain();
        drownsWithHull();
        firstPart();
        goodLog();
        judgeRefused();
        edges.end("HullEdgesTest");
    }
}
