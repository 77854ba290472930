/** Edges of logs and of logs with hulls that are not told (promises 10 to 13): each test stands for the sentence in its remark. */
public final class LogEdgesTest {
    private static final int NONE = Edges.NONE, DROWNED = Edges.DROWNED, UNKNOWN = Edges.UNKNOWN,
        OUTSIDE = Edges.OUTSIDE, STATE = Edges.STATE, NO = Edges.NO;
    private static final int LEAST = Edges.LEAST, GREATEST = Edges.GREATEST;
    private static final Edges edges = new Edges();

    private static void due(String call, long got, long want) {
        edges.due(call, got, want);
    }

    private static void logged(String log, int what, int want) {
        due("log(" + what + ") of " + log, Edges.told(log).log(what), want);
    }

    private static void bore(String log, int name, int day, int want) {
        due("who(" + name + ", " + day + ") of " + log, Edges.told(log).who(name, day), want);
    }

    private static void couldBe(String log, int name, int day, int want) {
        due("could(" + name + ", " + day + ") of " + log, Edges.told(log).could(name, day), want);
    }

    /** The answers of filled(-1), filled(0) and so on. */
    private static void filled(LentNames port, String log, int... want) {
        Edges.tell(port, log);
        for (int i = 0; i < want.length; i++) {
            due("filled(" + (i - 1) + ") of " + log, port.filled(i - 1), want[i]);
        }
    }

    private static void filled(String log, int... want) {
        filled(new LentNames(), log, want);
    }

    // ---- promise 10

    /** "behind it (on its last day)", "(no signs are a LOG)": the last day of an empty LOG is day 0, all are at home. */
    private static void emptyLog() {
        LentNames port = new LentNames();
        due("log(0)", port.log(0), 0);
        for (int h = 0; h < 6; h++) {
            due("log(10 and " + h + ")", port.log(10 + h), NONE);
        }
        for (int n = 0; n < 5; n++) {
            due("log(20 and " + n + ")", port.log(20 + n), NONE);
            due("log(30 and " + n + ")", port.log(30 + n), 0);
            due("log(40 and " + n + ")", port.log(40 + n), 0);
        }
    }

    /** "Days are numbered from 0 on" and promise 10: "its last day (what = 0)": from 0 to 48, that of a full PAD. */
    private static void lastDay() {
        for (int days = 0; days <= 48; days++) {
            logged(Edges.dots(days), 0, days);
        }
        logged("Aa9", 0, 0);
        logged(".Aa9", 0, 1);
        logged("Aa9.", 0, 1);
        logged(Edges.dots(45) + "Aa9", 0, 45);
    }

    /** "the NAME that a HULL bears (NONE: it is at home; DROWNED: -7), the HULL that bears a NAME, likewise" */
    private static void bearing() {
        for (int h = 0; h < 6; h++) {
            for (int n = 0; n < 5; n++) {
                String part = "" + (char) ('A' + h) + (char) ('a' + n);
                LentNames port = Edges.told(part + "2.");
                LentNames back = Edges.told(part + "2..");
                LentNames lost = Edges.told(part + "2!" + (char) ('a' + n) + "...");
                for (int i = 0; i < 6; i++) {
                    due("log(10 and " + i + ") of " + part + "2.", port.log(10 + i), i == h ? n : NONE);
                    due("log(10 and " + i + ") of " + part + "2..", back.log(10 + i), NONE);
                    due("log(10 and " + i + ") of one drowned", lost.log(10 + i), i == h ? DROWNED : NONE);
                }
                for (int i = 0; i < 5; i++) {
                    due("log(20 and " + i + ") of " + part + "2.", port.log(20 + i), i == n ? h : NONE);
                    due("log(20 and " + i + ") of " + part + "2..", back.log(20 + i), NONE);
                    due("log(20 and " + i + ") of one drowned", lost.log(20 + i), i == n ? DROWNED : NONE);
                }
            }
        }
    }

    /** "the day on which a NAME is at home again (that day, if it is; -7)", "(30 and it; the last day, if it is then)" */
    private static void dayAtHome() {
        for (int d = 0; d <= 3; d++) {
            for (int k = 1; k <= 9; k++) {
                String out = Edges.dots(d) + "Ce" + k;
                for (int later = 0; later <= k + 2; later++) {
                    logged(out + Edges.dots(later), 34, d + Math.max(k, later));
                    logged(out + Edges.dots(later), 33, d + later);
                    logged(out + Edges.dots(later) + (later < k ? "!e.." : ""), 34, later < k ? DROWNED : d + later);
                }
            }
        }
        logged(Edges.dots(45) + "Ce9", 34, 54);
        logged(Edges.dots(45) + "Ce9", 30, 45);
        // taken anew on the day on which it came home
        logged("Aa1.Ba5", 30, 6);
        logged("Aa1.Ba5!a", 30, DROWNED);
    }

    /** "how many times a NAME came home", "(40 and it)" by the last day: who comes home on it has come. */
    private static void timesHome() {
        logged("Aa1", 40, 0);
        logged("Aa1.", 40, 1);
        logged("Aa1..", 40, 1);
        logged("Aa9" + Edges.dots(8), 40, 0);
        logged("Aa9" + Edges.dots(9), 40, 1);
        logged(Edges.times(12, "Aa1."), 40, 12);
        logged(Edges.times(11, "Aa1.") + "Ba1.", 40, 12);
        logged(Edges.times(12, "Aa1."), 41, 0);
        for (int n = 0; n < 5; n++) {
            logged("Aa1Bb1Cc1Dd1Ee1.", 40 + n, 1);
            logged("Aa1Bb1Cc1Dd1Ee1", 40 + n, 0);
            logged("Aa1Bb2Cc3Dd4Ee5....", 40 + n, n < 4 ? 1 : 0);
        }
    }

    /** "how many times a NAME came home": of one that has DROWNED as often as it came before, no time more. */
    private static void timesHomeOfDrowned() {
        logged("Aa1!a", 40, 0);
        logged("Aa1!a...", 40, 0);
        logged("Aa1.Ba1.Ca3!a....", 40, 2);
        logged("Aa1.Ba1.Ca3.!a", 40, 2);
        logged("Aa1.Ab2!b..", 40, 1);
        logged("Aa1.Ab2!b..", 41, 0);
    }

    /** Promise 10: "0 [..] 10 and the HULL [..] 20 and it [..] 30 and it [..] 40 and it [..] OUTSIDE": in every state. */
    private static void logWhat() {
        LentNames port = Edges.told("Aa1");
        int asked = 0;
        for (int what : Edges.NUMBERS) {
            boolean known = what == 0 || what >= 10 && what <= 15 || what >= 20 && what <= 24 || what >= 30 && what <= 34
                || what >= 40 && what <= 44;
            if (asked % 400 == 0) {
                port = Edges.told("Aa1");
            }
            asked++;
            due("log(" + what + ") is OUTSIDE", port.log(what) == OUTSIDE ? 1 : 0, known ? 0 : 1);
        }
        for (int w : new int[] {LEAST, -10, -1, 1, 9, 16, 19, 25, 29, 35, 39, 45, 50, 256, 256 + 10, 65536, GREATEST}) {
            edges.refused("log(" + w + ")", p -> p.log(w), OUTSIDE);
        }
    }

    /** Promise 10: "OUTSIDE; NO; STATE: there is some ?, or it is not good.", in this order. */
    private static void logRefused() {
        for (int w : new int[] {0, 10, 15, 20, 24, 30, 34, 40, 44}) {
            edges.refusedIn(Edges.BROKEN, "log(" + w + ")", p -> p.log(w), NO);
            edges.refusedIn(Edges.GAPS, "log(" + w + ")", p -> p.log(w), STATE);
            edges.refusedIn(Edges.BAD, "log(" + w + ")", p -> p.log(w), STATE);
            edges.refusedIn(Edges.NO_WAY, "log(" + w + ")", p -> p.log(w), STATE);
            logged("A", w, NO);
            logged("!a!", w, NO);
            logged("?a1", w, STATE);
            logged("!a", w, STATE);
            logged(Edges.dots(46) + "!a", w, STATE);
        }
    }

    // ---- promise 11

    /** "WHO bore a NAME on a day (0 to the last one [..]): NONE": of an empty LOG, of a full PAD. */
    private static void nobody() {
        for (int n = 0; n < 5; n++) {
            bore("", n, 0, NONE);
            bore("", n, 1, UNKNOWN);
            bore(Edges.dots(48), n, 0, NONE);
            bore(Edges.dots(48), n, 48, NONE);
            bore(Edges.dots(48), n, 49, UNKNOWN);
            bore(Edges.dots(47), n, 48, UNKNOWN);
        }
    }

    /** "it sails on this day under that NAME, and is at home again so many days later": it bears it from the day on which it sails to the one before it is at home again. */
    private static void boreIt() {
        for (int d = 0; d <= 2; d++) {
            for (int k = 1; k <= 9; k++) {
                String log = Edges.dots(d) + "Fb" + k + Edges.dots(k + 2);
                for (int day = 0; day <= d + k + 2; day++) {
                    bore(log, 1, day, day >= d && day < d + k ? 5 : NONE);
                    bore(log, 0, day, NONE);
                }
            }
        }
        for (int h = 0; h < 6; h++) {
            for (int n = 0; n < 5; n++) {
                for (int other = 0; other < 5; other++) {
                    bore("" + (char) ('A' + h) + (char) ('a' + n) + "1", other, 0, other == n ? h : NONE);
                }
            }
        }
    }

    /** "on the day on which it comes home, only who took it anew" */
    private static void tookItAnew() {
        bore("Aa1.", 0, 1, NONE);
        bore("Aa1.Ba1", 0, 0, 0);
        bore("Aa1.Ba1", 0, 1, 1);
        bore("Aa1.Ba1.", 0, 2, NONE);
        bore("Aa1.Aa1", 0, 1, 0);
        bore("Aa2..Ca1.Da9.", 0, 1, 0);
        bore("Aa2..Ca1.Da9.", 0, 2, 2);
        bore("Aa2..Ca1.Da9.", 0, 3, 3);
        bore("Aa2..Ca1.Da9.", 0, 4, 3);
        // the same HULL under another NAME
        bore("Aa1.Ab1", 0, 1, NONE);
        bore("Aa1.Ab1", 1, 1, 0);
    }

    /** "on the day on which it DROWNED, too, and never later" */
    private static void drownedBearer() {
        bore("Aa9!a", 0, 0, 0);
        bore("Aa9!a.", 0, 1, NONE);
        bore("Aa9..!a....", 0, 0, 0);
        bore("Aa9..!a....", 0, 1, 0);
        bore("Aa9..!a....", 0, 2, 0);
        bore("Aa9..!a....", 0, 3, NONE);
        bore("Aa9..!a....", 0, 6, NONE);
        // on the day on which it came home and was taken anew
        bore("Aa1.Ba1!a.", 0, 0, 0);
        bore("Aa1.Ba1!a.", 0, 1, 1);
        bore("Aa1.Ba1!a.", 0, 2, NONE);
        // another NAME that drowns
        bore("Aa2Bb2!b.", 0, 1, 0);
        bore("Aa2Bb2!b.", 1, 0, 1);
        bore("Aa2Bb2!b.", 1, 1, NONE);
    }

    /** Promise 11: "UNKNOWN: the NAME, a day below 0; NO": where both would. */
    private static void whoUnknownFirst() {
        for (int n : Edges.NO_NAMES) {
            edges.refused("who(" + n + ", 0)", p -> p.who(n, 0), UNKNOWN);
            edges.refused("could(" + n + ", 0)", p -> p.could(n, 0), UNKNOWN);
        }
        for (int d : new int[] {LEAST, LEAST + 1, -65536, -256, -48, -7, -6, -2, -1}) {
            edges.refused("who(0, " + d + ")", p -> p.who(0, d), UNKNOWN);
            edges.refused("could(0, " + d + ")", p -> p.could(0, d), UNKNOWN);
        }
    }

    /** Promise 11: "NO; UNKNOWN: a day behind the last one": where both would. */
    private static void whoNoBeforeDay() {
        for (int d : new int[] {0, 1, 2, 48, 49, 256, 65536, GREATEST - 1, GREATEST}) {
            edges.refusedIn(Edges.BROKEN, "who(0, " + d + ")", p -> p.who(0, d), NO);
            edges.refusedIn(Edges.BROKEN, "could(0, " + d + ")", p -> p.could(0, d), NO);
            bore("A", 4, d, NO);
            couldBe("A", 4, d, NO);
        }
    }

    /** Promise 11: "UNKNOWN: a day behind the last one; STATE": where both would, and where one would. */
    private static void whoDayBeforeState() {
        int[] lastDays = {0, 2, 2, 2, NONE, 48, 1};
        for (int s = 0; s < Edges.HARBOURS; s++) {
            int state = s;
            int last = lastDays[s];
            for (int d : new int[] {last + 1, last + 2, 49, 256, 65536, GREATEST - 1, GREATEST}) {
                if (state != Edges.BROKEN) {
                    edges.refusedIn(state, "who(1, " + d + ")", p -> p.who(1, d), UNKNOWN);
                    edges.refusedIn(state, "could(1, " + d + ")", p -> p.could(1, d), UNKNOWN);
                }
            }
        }
        for (int n = 0; n < 5; n++) {
            bore("?a1", n, 1, UNKNOWN);
            bore("!a", n, 1, UNKNOWN);
            bore("?a1", n, 0, STATE);
            bore("!a", n, 0, STATE);
            bore("?a1..", n, 2, STATE);
            bore("?a1..", n, 3, UNKNOWN);
            couldBe("!a", n, 1, UNKNOWN);
            couldBe("!a", n, 0, STATE);
        }
    }

    /** Promise 11: "STATE, likewise.": there is some ?, or it is not good. */
    private static void whoState() {
        for (int day = 0; day <= 1; day++) {
            final int d = day;
            edges.refusedIn(Edges.GAPS, "who(0, " + d + ")", p -> p.who(0, d), STATE);
            edges.refusedIn(Edges.BAD, "who(0, " + d + ")", p -> p.who(0, d), STATE);
            edges.refusedIn(Edges.NO_WAY, "who(0, " + d + ")", p -> p.who(0, d), STATE);
        }
        bore("Aa1.!b", 0, 0, STATE);
        bore("Aa1.?b1", 0, 0, STATE);
    }

    // ---- promise 12

    /** "FILLED: ways to write HULLS for ? so that the LOG is good: how many": without ? one, if it is good. */
    private static void nothingToFill() {
        filled("", 1, NONE, NONE, NONE, NONE, NONE);
        filled(Edges.dots(48), 1, NONE, NONE);
        filled("Aa1", 1, NONE, NONE);
        filled("Aa1Aa1", 0, NONE, NONE);
        filled("!a", 0, NONE, NONE, NONE, NONE, NONE);
    }

    /** "how many": each way that is good, up to 1296 with four ?. */
    private static void howMany() {
        filled("?a1", 6, 0, NONE);
        filled("?a1.?a1", 36, 0, 0, NONE);
        filled("?a1.?a1.?a1", 216, 0, 0, 0, NONE);
        filled("?a1.?a1.?a1.?a1", 1296, 0, 0, 0, 0, NONE);
        filled("?a1.?b1.?c1.?d1" + Edges.dots(33), 1296, 0, 0, 0, 0, NONE);
        filled("?a1?b1", 30, 0, 1, NONE);
        filled("?a1?b1?c1", 120, 0, 1, 2, NONE);
        filled("?a1?b1?c1?d1", 360, 0, 1, 2, 3, NONE);
        filled("Ee9?a1?b1?c1?d1", 120, 0, 1, 2, 3, NONE);
        filled("?a2.?b1", 30, 0, 1, NONE);
        filled("?a2..?b1", 36, 0, 0, NONE);
    }

    /** "the first by letters": of the ways that are good, the first ? before the second. */
    private static void firstByLetters() {
        filled("Aa9?b1", 5, 1, NONE);
        filled("Aa9Bb9Cc9Dd9?e1", 2, 4, NONE);
        // only later parts tell which HULL it can not have been
        filled("?a9.Ab1", 5, 1, NONE);
        filled("?a9?b9.Ac1Bd1", 12, 2, 3, NONE);
        filled("?a1.?b9.Bc1", 30, 0, 0, NONE);
        filled("?a1?b9.Ac1", 25, 0, 1, NONE);
        filled("?a9?b1.Ac1", 25, 1, 0, NONE);
        filled("?a9!a.?b9!b.Ac1Bd1", 12, 2, 3, NONE);
        // F alone MAY sail under a
        LentNames port = new LentNames();
        for (int h = 0; h < 5; h++) {
            port.hull(h, 0, 30);
        }
        filled(port, "?a1", 1, 5, NONE);
        filled(port, "?a1.?a1.?a1.?a1", 1, 5, 5, 5, 5, NONE);
        filled(port, "?a9?b1", 5, 5, 0, NONE);
        filled(port, "?b1?a1", 5, 0, 5, NONE);
    }

    /** "so that the LOG is good": no way is. */
    private static void noWay() {
        filled("?a1?a1", 0, NONE, NONE, NONE);
        filled("?a1!b", 0, NONE, NONE);
        filled("!b?a1", 0, NONE, NONE);
        filled("?a9!a.?a1", 0, NONE, NONE, NONE);
        filled("Aa9Bb9Cc9Dd9Ee9.?a1", 0, NONE, NONE);
        filled("?a9.Ab1Bc1Cd1De1..Eb1Fc1", 0, NONE, NONE);
        LentNames port = new LentNames();
        for (int h = 0; h < 6; h++) {
            port.hull(h, 0, 0);
        }
        filled(port, "?a1", 0, NONE, NONE);
        filled(port, "?a1.?b1.?c1.?d1", 0, NONE, NONE, NONE, NONE, NONE);
        filled(port, "", 1, NONE);
    }

    /** Promise 12: "how many ways (i = -1), the HULL of the i-th ? in the first; NONE": any other i. */
    private static void filledPlace() {
        for (int i : Edges.NUMBERS) {
            due("filled(" + i + ") of no ?", new LentNames().filled(i), i == -1 ? 1 : NONE);
            due("filled(" + i + ") of two ?", Edges.told("?a1?b1").filled(i), i == -1 ? 30 : i == 0 ? 0 : i == 1 ? 1 : NONE);
            due("filled(" + i + ") of no way", Edges.told("?a1?a1").filled(i), i == -1 ? 0 : NONE);
        }
        for (int i : new int[] {LEAST, LEAST + 1, -6, -3, -2, 4, 5, 6, 47, 48, 256, 65536, GREATEST - 1, GREATEST}) {
            due("filled(" + i + ") of four ?", Edges.told("?a1?b1?c1?d1").filled(i), NONE);
        }
    }

    /** Promise 12: "NO: there is a FAULT.", whatever the place. */
    private static void filledRefused() {
        for (int i : new int[] {LEAST, -2, -1, 0, 1, 4, 5, GREATEST}) {
            edges.refusedIn(Edges.BROKEN, "filled(" + i + ")", p -> p.filled(i), NO);
            for (String log : new String[] {"?", "A", "Aa", "!", "G", Edges.times(5, "?a1"), Edges.dots(47) + "?"}) {
                due("filled(" + i + ") of " + log, Edges.told(log).filled(i), NO);
            }
        }
    }

    // ---- promise 13

    /** "WHO can have borne a NAME on a day in any of these ways, as bits": each HULL's bit, none, all. */
    private static void bits() {
        for (int h = 0; h < 6; h++) {
            couldBe("" + (char) ('A' + h) + "c1", 2, 0, 1 << h);
            couldBe("" + (char) ('A' + h) + "c1", 1, 0, 0);
            couldBe("" + (char) ('A' + h) + "c9?a1", 0, 0, 63 - (1 << h));
        }
        for (int n = 0; n < 5; n++) {
            couldBe("", n, 0, 0);
            couldBe(Edges.dots(48), n, 48, 0);
            couldBe("?" + (char) ('a' + n) + "1", n, 0, 63);
            couldBe("?" + (char) ('a' + n) + "1.", n, 1, 0);
        }
    }

    /** "in any of these ways": only in those that are good, also where a later PART tells it. */
    private static void inGoodWays() {
        couldBe("?a9.Ab1", 0, 0, 62);
        couldBe("?a9.Ab1", 0, 1, 62);
        couldBe("?a9.Ab1", 1, 0, 0);
        couldBe("?a9.Ab1", 1, 1, 1);
        couldBe("?a2?b2.Ac1Bd1Ce1", 0, 0, 56);
        couldBe("?a2?b2.Ac1Bd1Ce1", 1, 1, 56);
        couldBe("?a1.?a1.?a1.?a1", 0, 3, 63);
        LentNames port = new LentNames();
        for (int h = 0; h < 6; h++) {
            port.hull(h, 0, h < 2 ? 1 : 2);
        }
        Edges.tell(port, "?a1?b1");
        due("could(0, 0) by MAY", port.could(0, 0), 3);
        due("could(1, 0) by MAY", port.could(1, 0), 60);
        due("could(2, 0) by MAY", port.could(2, 0), 0);
    }

    /** "WHO can have borne": as of WHO, on the day of coming home only who took it anew, on that of drowning, too. */
    private static void couldByDay() {
        couldBe("?a1.Ba1", 0, 0, 63);
        couldBe("?a1.Ba1", 0, 1, 2);
        couldBe("Aa1.?a2..", 0, 0, 1);
        couldBe("Aa1.?a2..", 0, 1, 63);
        couldBe("Aa1.?a2..", 0, 2, 63);
        couldBe("Aa1.?a2..", 0, 3, 0);
        couldBe("?a9.!a..", 0, 0, 63);
        couldBe("?a9.!a..", 0, 1, 63);
        couldBe("?a9.!a..", 0, 2, 0);
        couldBe("?a9.!a..", 0, 3, 0);
    }

    /** Promise 13: "STATE: no way is good." */
    private static void couldState() {
        for (int n = 0; n < 5; n++) {
            final int name = n;
            couldBe("?a1?a1", n, 0, STATE);
            couldBe("!b", n, 0, STATE);
            couldBe("?a1!b.", n, 1, STATE);
            edges.refusedIn(Edges.NO_WAY, "could(" + n + ", 0)", p -> p.could(name, 0), STATE);
            edges.refusedIn(Edges.BAD, "could(" + n + ", 2)", p -> p.could(name, 2), STATE);
        }
        // with some ? it is no STATE as long as one way is good
        couldBe("?a1", 0, 0, 63);
    }

    /** Promises 11 and 13: "UNKNOWN, NO, UNKNOWN, likewise", the whole range of int in each place. */
    private static void daysEverywhere() {
        for (int n : Edges.FEW) {
            for (int day : Edges.NUMBERS) {
                boolean known = n >= 0 && n <= 4 && day >= 0;
                due("who(" + n + ", " + day + ")", Edges.told("Ba9..").who(n, day),
                    !known || day > 2 ? UNKNOWN : n == 0 ? 1 : NONE);
                due("could(" + n + ", " + day + ")", Edges.told("Ba9..").could(n, day),
                    !known || day > 2 ? UNKNOWN : n == 0 ? 2 : 0);
                due("who(" + n + ", " + day + ") of a FAULT", Edges.told("A").who(n, day), known ? NO : UNKNOWN);
                due("could(" + n + ", " + day + ") of a FAULT", Edges.told("A").could(n, day), known ? NO : UNKNOWN);
            }
        }
    }

    /** "Behind the LOG on the PAD": each call tells the LOG as it stands, by what a HULL MAY then. */
    private static void asItStands() {
        LentNames port = Edges.told("?a1.?b1");
        due("filled(-1)", port.filled(-1), 36);
        port.hull(0, 0, 1);
        due("filled(-1), A MAY not b", port.filled(-1), 30);
        due("filled(1), A MAY not b", port.filled(1), 1);
        due("could(1, 1), A MAY not b", port.could(1, 1), 62);
        port.say('!');
        due("filled(-1), more must come", port.filled(-1), NO);
        port.say('b');
        due("filled(-1) of a longer LOG", port.filled(-1), 30);
        Edges.tell(port, "Ab1");
        due("log(21), A MAY not b", port.log(21), STATE);
        due("who(1, 0), A MAY not b", port.who(1, 0), STATE);
        due("could(1, 0), A MAY not b", port.could(1, 0), STATE);
        port.hull(0, 0, 2);
        due("log(21), A MAY b", port.log(21), 0);
        due("who(1, 0), A MAY b", port.who(1, 0), 0);
        due("could(1, 0), A MAY b", port.could(1, 0), 1);
    }

    public static void main(String[] args) {
        emptyLog();
        lastDay();
        bearing();
        dayAtHome();
        timesHome();
        timesHomeOfDrowned();
        logWhat();
        logRefused();
        nobody();
        boreIt();
        tookItAnew();
        drownedBearer();
        whoUnknownFirst();
        whoNoBeforeDay();
        whoDayBeforeState();
        whoState();
        nothingToFill();
        howMany();
        firstByLetters();
        noWay();
        filledPlace();
        filledRefused();
        bits();
        inGoodWays();
        couldByDay();
        couldState();
        daysEverywhere();
        asItStands();
        edges.end("LogEdgesTest");
    }
}
