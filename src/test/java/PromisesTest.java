/** Promise by promise: ordinary inputs, the edges that the document names, refusals in their order. */
public final class PromisesTest {
    private static final int NONE = -6, DROWNED = -7, UNKNOWN = -1, OUTSIDE = -2, STATE = -3, FULL = -4, NO = -5;
    private static final long LOST = -1000000000000000000L;
    private static final int LEAST = Integer.MIN_VALUE, GREATEST = Integer.MAX_VALUE;

    private static int wrong = 0;
    private static int rows = 0;
    private static int promise = 0;

    private static void due(String call, long got, long want) {
        rows++;
        if (got != want) {
            wrong++;
            System.out.println("promise " + promise + ": " + call + " answered " + got + ", due is " + want);
        }
    }

    private static LentNames told(String log) {
        return tell(new LentNames(), log);
    }

    private static LentNames tell(LentNames port, String log) {
        port.wipe();
        for (char sign : log.toCharArray()) {
            port.say(sign);
        }
        return port;
    }

    private static void newObject() {
        promise = 1;
        LentNames port = new LentNames();
        due("signs", port.told(0), 0);
        for (int h = 0; h < 6; h++) {
            due("MAY", port.told(10 + h), 31);
            due("VOYAGE", port.told(20 + h), 0);
            for (int n = 0; n < 5; n++) {
                due("WORTH", port.told(100 + 5 * h + n), 10);
            }
        }
        for (int n = 0; n < 5; n++) {
            due("LUCK", port.told(30 + n), 5);
            due("RANK", port.told(40 + n), 12345);
        }
        due("restore(0)", port.restore(0), STATE);
        due("restore(1)", port.restore(1), STATE);
        due("NONE", LentNames.NONE, NONE);
        due("DROWNED", LentNames.DROWNED, DROWNED);
        due("UNKNOWN", LentNames.UNKNOWN, UNKNOWN);
        due("OUTSIDE", LentNames.OUTSIDE, OUTSIDE);
        due("STATE", LentNames.STATE, STATE);
        due("FULL", LentNames.FULL, FULL);
        due("NO", LentNames.NO, NO);
        due("LOST", LentNames.LOST, LOST);
    }

    private static void hull() {
        promise = 2;
        LentNames port = new LentNames();
        due("hull(0, 0, 0)", port.hull(0, 0, 0), 31);
        due("hull(0, 0, 31)", port.hull(0, 0, 31), 0);
        due("hull(5, 0, 17)", port.hull(5, 0, 17), 31);
        due("hull(5, 1, 9)", port.hull(5, 1, 9), 0);
        due("hull(5, 1, 0)", port.hull(5, 1, 0), 9);
        due("hull(5, 0, 1)", port.hull(5, 0, 1), 17);
        due("hull(6, 0, 0)", port.hull(6, 0, 0), UNKNOWN);
        due("hull(-1, 2, 99)", port.hull(-1, 2, 99), UNKNOWN);
        due("hull(LEAST)", port.hull(LEAST, LEAST, LEAST), UNKNOWN);
        due("hull(GREATEST)", port.hull(GREATEST, 0, 0), UNKNOWN);
        due("hull(1, 2, 0)", port.hull(1, 2, 0), OUTSIDE);
        due("hull(1, -1, 0)", port.hull(1, -1, 0), OUTSIDE);
        due("hull(1, 0, 32)", port.hull(1, 0, 32), OUTSIDE);
        due("hull(1, 0, -1)", port.hull(1, 0, -1), OUTSIDE);
        due("hull(1, 1, 10)", port.hull(1, 1, 10), OUTSIDE);
        due("hull(1, 1, -1)", port.hull(1, 1, -1), OUTSIDE);
        due("MAY unchanged", port.told(11), 31);
        due("VOYAGE unchanged", port.told(21), 0);
    }

    private static void luck() {
        promise = 3;
        LentNames port = new LentNames();
        due("luck(0, 0)", port.luck(0, 0), 5);
        due("luck(0, 10)", port.luck(0, 10), 0);
        due("luck(4, 7)", port.luck(4, 7), 5);
        due("luck(4, 1)", port.luck(4, 1), 7);
        due("luck(0, 5)", port.luck(0, 5), 10);
        due("luck(5, 11)", port.luck(5, 11), UNKNOWN);
        due("luck(-1, 0)", port.luck(-1, 0), UNKNOWN);
        due("luck(1, 11)", port.luck(1, 11), OUTSIDE);
        due("luck(1, -1)", port.luck(1, -1), OUTSIDE);
        due("LUCK unchanged", port.told(31), 5);
    }

    private static void worth() {
        promise = 4;
        LentNames port = new LentNames();
        due("worth(0, 0, 0)", port.worth(0, 0, 0), 10);
        due("worth(0, 0, 99)", port.worth(0, 0, 99), 0);
        due("worth(5, 4, 1)", port.worth(5, 4, 1), 10);
        due("worth(1, 0, 2)", port.worth(1, 0, 2), 10);
        due("worth(0, 4, 3)", port.worth(0, 4, 3), 10);
        due("worth(0, 0, 4)", port.worth(0, 0, 4), 99);
        due("worth(5, 4, 4)", port.worth(5, 4, 4), 1);
        due("worth(6, 5, 100)", port.worth(6, 5, 100), UNKNOWN);
        due("worth(0, 5, 100)", port.worth(0, 5, 100), UNKNOWN);
        due("worth(0, -1, 1)", port.worth(0, -1, 1), UNKNOWN);
        due("worth(-1, 0, 1)", port.worth(-1, 0, 1), UNKNOWN);
        due("worth(2, 2, 100)", port.worth(2, 2, 100), OUTSIDE);
        due("worth(2, 2, -1)", port.worth(2, 2, -1), OUTSIDE);
        due("WORTH unchanged", port.told(112), 10);
    }

    private static void rank() {
        promise = 5;
        LentNames port = new LentNames();
        due("rank(0, 543210)", port.rank(0, 543210), 12345);
        due("rank(0, 54321)", port.rank(0, 54321), 543210);
        due("rank(0, 102345)", port.rank(0, 102345), 54321);
        due("rank(4, 12354)", port.rank(4, 12354), 12345);
        due("rank(5, -1)", port.rank(5, -1), UNKNOWN);
        due("rank(-1, 12345)", port.rank(-1, 12345), UNKNOWN);
        due("rank(1, -12345)", port.rank(1, -12345), OUTSIDE);
        due("rank(1, 0)", port.rank(1, 0), OUTSIDE);
        due("rank(1, 12344)", port.rank(1, 12344), OUTSIDE);
        due("rank(1, 123456)", port.rank(1, 123456), OUTSIDE);
        due("rank(1, 1012345)", port.rank(1, 1012345), OUTSIDE);
        due("rank(1, 112345)", port.rank(1, 112345), OUTSIDE);
        due("rank(1, LEAST)", port.rank(1, LEAST), OUTSIDE);
        due("rank(1, GREATEST)", port.rank(1, GREATEST), OUTSIDE);
        due("RANK unchanged", port.told(41), 12345);
    }

    private static void say() {
        promise = 6;
        LentNames port = new LentNames();
        due("say(33)", port.say(33), 1);
        due("say(126)", port.say(126), 2);
        due("say(32)", port.say(32), OUTSIDE);
        due("say(127)", port.say(127), OUTSIDE);
        due("say(LEAST)", port.say(LEAST), OUTSIDE);
        for (int i = 3; i <= 48; i++) {
            due("say(46)", port.say(46), i);
        }
        due("say(46)", port.say(46), FULL);
        due("say(32) on a full pad", port.say(32), OUTSIDE);
        due("signs", port.told(0), 48);
        due("wipe()", port.wipe(), 48);
        due("say(65)", port.say(65), 1);
    }

    private static void wipe() {
        promise = 7;
        LentNames port = told("Aa3");
        due("wipe()", port.wipe(), 3);
        due("wipe()", port.wipe(), 0);
        due("signs", port.told(0), 0);
        due("fault()", port.fault(), NONE);
        due("could of a wiped log", port.could(0, 0), 0);
        due("signs said anew", told("Aa3.").log(20), 0);
    }

    private static void fault(String log, int want) {
        due("fault() of " + log, told(log).fault(), want);
    }

    private static void fault() {
        promise = 8;
        fault("", NONE);
        fault("Aa1", NONE);
        fault("Fe9", NONE);
        fault(".!e.", NONE);
        fault("A", 1);
        fault("Aa", 2);
        fault("!", 1);
        fault("..!", 3);
        fault("G", 0);
        fault("@", 0);
        fault("a", 0);
        fault("1", 0);
        fault("Af1", 1);
        fault("A`1", 1);
        fault("AA1", 1);
        fault("Aa0", 2);
        fault("Aa:", 2);
        fault("Aa.", 2);
        fault("!f", 1);
        fault("!A", 1);
        fault("!a1", 2);
        fault("Aa1G", 3);
        fault("?a1?a1?a1?a1", NONE);
        fault("?a1?a1?a1?a1?", 12);
        fault("?a1?a1?a1?a1Aa1", NONE);
        fault("??", 1);
        fault("................................................", NONE);
        fault("..............................................Aa", 48);
        fault("...............................................A", 48);
    }

    private static void judged(String log, int part, int why) {
        LentNames port = told(log);
        due("judge(0) of " + log, port.judge(0), part);
        due("judge(1) of " + log, port.judge(1), why);
    }

    private static void judge() {
        promise = 9;
        judged("", NONE, NONE);
        judged("Aa1Bb2Cc3Dd4Ee5", NONE, NONE);
        judged("Aa1!aAb1", 2, 1);
        judged("Aa1!a..Ba1", 4, 3);
        judged("Aa2Ab1", 1, 2);
        judged("Aa2.Ab1", 2, 2);
        judged("Aa2..Ab1", NONE, NONE);
        judged("Aa2Ba1", 1, 4);
        judged("Aa2.Ba1", 2, 4);
        judged("Aa2..Ba1", NONE, NONE);
        judged("!a", 0, 4);
        judged("Aa1.!a", 2, 4);
        judged("Aa2.!a", NONE, NONE);
        judged("Aa2.!a!a", 3, 3);
        // the least of several reasons
        judged("Aa1!aAa1", 2, 1);
        judged("Aa1Bb1!aBa1", 3, 2);
        judged("Aa1Bb1Ab1", 2, 2);
        LentNames port = new LentNames();
        port.hull(1, 0, 2);
        tell(port, "Ba1");
        due("judge(1): MAY not", port.judge(1), 5);
        due("judge(0): MAY not", port.judge(0), 0);
        tell(port, "Aa1Ba1");
        due("judge(1): at sea before MAY not", port.judge(1), 4);
        tell(port, "Bb3");
        due("judge(0): MAY", port.judge(0), NONE);
        due("judge(2) before NO", told("A").judge(2), OUTSIDE);
        due("judge(-1)", told("").judge(-1), OUTSIDE);
        due("judge(0): NO before STATE", told("?a1A").judge(0), NO);
        due("judge(0): STATE", told("?a1").judge(0), STATE);
        due("judge(1): STATE", told("?a1").judge(1), STATE);
    }

    private static void log() {
        promise = 10;
        LentNames port = told("Aa2Bb1Cc3.Bb9.Da1!cEd1.");
        due("judge(0)", port.judge(0), NONE);
        int[][] rows = {{0, 3}, {10, NONE}, {11, 1}, {12, DROWNED}, {13, NONE}, {14, NONE}, {15, NONE},
            {20, NONE}, {21, 1}, {22, DROWNED}, {23, NONE}, {24, NONE},
            {30, 3}, {31, 10}, {32, DROWNED}, {33, 3}, {34, 3},
            {40, 2}, {41, 1}, {42, 0}, {43, 1}, {44, 0}};
        for (int[] row : rows) {
            due("log(" + row[0] + ")", port.log(row[0]), row[1]);
        }
        due("log(40) of one drowned", told("Aa1.Aa1.Aa1!a..").log(40), 2);
        for (int what : new int[] {-1, 1, 9, 16, 19, 25, 29, 35, 39, 45, 50, LEAST, GREATEST}) {
            due("log(" + what + ")", port.log(what), OUTSIDE);
        }
        due("log(1) before NO", told("A").log(1), OUTSIDE);
        due("log(0): NO", told("A").log(0), NO);
        due("log(0): NO before STATE", told("?a1A").log(0), NO);
        due("log(0): STATE by ?", told("?a1").log(0), STATE);
        due("log(0): STATE by a bad part", told("!a").log(0), STATE);
    }

    private static void who() {
        promise = 11;
        LentNames port = told("Aa2.Bb3..Ca2!b....");
        int[][] days = {{0, 0, 2, 2, NONE, NONE, NONE, NONE}, {NONE, 1, 1, 1, NONE, NONE, NONE, NONE}};
        // a comes home on day 2 and is not taken; on day 3 it is
        days[0] = new int[] {0, 0, NONE, 2, 2, NONE, NONE, NONE};
        for (int name = 0; name < 2; name++) {
            for (int day = 0; day <= 7; day++) {
                due("who(" + name + ", " + day + ")", port.who(name, day), days[name][day]);
            }
        }
        due("who(0, 8)", port.who(0, 8), UNKNOWN);
        LentNames anew = told("Aa1.Ba1");
        due("who(0, 0)", anew.who(0, 0), 0);
        due("who(0, 1): taken anew", anew.who(0, 1), 1);
        LentNames lost = told("Aa5..!a..");
        due("who(0, 1)", lost.who(0, 1), 0);
        due("who(0, 2): drowned on it", lost.who(0, 2), 0);
        due("who(0, 3)", lost.who(0, 3), NONE);
        due("who(0, 4)", lost.who(0, 4), NONE);
        due("who(5, 0) before NO", told("A").who(5, 0), UNKNOWN);
        due("who(-1, 0)", told("").who(-1, 0), UNKNOWN);
        due("who(0, -1) before NO", told("A").who(0, -1), UNKNOWN);
        due("who(0, 9): NO before a day behind", told("A").who(0, 9), NO);
        due("who(0, 1): day behind before STATE", told("!a").who(0, 1), UNKNOWN);
        due("who(0, 1): day behind before ?", told("?a1").who(0, 1), UNKNOWN);
        due("who(0, 0): STATE", told("!a").who(0, 0), STATE);
        due("who(0, 0): STATE by ?", told("?a1").who(0, 0), STATE);
        due("who(0, GREATEST)", told("").who(0, GREATEST), UNKNOWN);
    }

    private static void filled(String log, int... want) {
        LentNames port = told(log);
        for (int i = 0; i < want.length; i++) {
            due("filled(" + (i - 1) + ") of " + log, port.filled(i - 1), want[i]);
        }
    }

    private static void filled() {
        promise = 12;
        filled("", 1, NONE);
        filled("Aa1", 1, NONE, NONE, NONE, NONE, NONE);
        filled("!a", 0, NONE);
        filled("?a1", 6, 0, NONE);
        filled("?a1?b1", 30, 0, 1, NONE);
        filled("?a1.?a1.?a1.?a1", 1296, 0, 0, 0, 0, NONE);
        filled("?a2?b2?c2?d2", 360, 0, 1, 2, 3, NONE);
        filled("?a1?a1", 0, NONE, NONE);
        filled("Aa9Bb9.?c1", 4, 2, NONE);
        // the hull that drowned can not be the one that sails later
        filled("?a9!a.?b1", 30, 0, 1, NONE);
        filled("?a9!a.Ab1", 5, 1, NONE);
        filled("Bb2?a9Ac1", 4, 2, NONE);
        filled("Bb2?a9Ab1", 0, NONE, NONE);
        filled("?a1.!a?b1", 0, NONE, NONE);
        due("filled(-2)", told("?a1").filled(-2), NONE);
        due("filled(4)", told("?a1").filled(4), NONE);
        due("filled(LEAST)", told("").filled(LEAST), NONE);
        due("filled(-1): NO", told("?").filled(-1), NO);
        due("filled(99): NO", told("A").filled(99), NO);
        LentNames port = new LentNames();
        port.hull(0, 0, 30);
        port.hull(3, 0, 2);
        tell(port, "?a1");
        due("filled(-1) by MAY", port.filled(-1), 4);
        due("filled(0) by MAY", port.filled(0), 1);
    }

    private static void could() {
        promise = 13;
        LentNames port = told("Aa3?b1.?b2..");
        due("could(0, 0)", port.could(0, 0), 1);
        due("could(0, 2)", port.could(0, 2), 1);
        due("could(0, 3)", port.could(0, 3), 0);
        due("could(1, 0)", port.could(1, 0), 62);
        due("could(1, 1)", port.could(1, 1), 62);
        due("could(1, 2)", port.could(1, 2), 62);
        due("could(1, 3)", port.could(1, 3), 0);
        due("could(2, 0)", port.could(2, 0), 0);
        due("could(1, 4)", port.could(1, 4), UNKNOWN);
        // which ways are good is known only at the end of the log
        LentNames later = told("?a9.?b9.Ac1Bd1Ce1Da9");
        due("could: name at sea", later.could(0, 0), STATE);
        later = told("?a9.?b9.Ac1Bd1Ce1");
        due("could(0, 0)", later.could(0, 0), 56);
        due("could(1, 0)", later.could(1, 0), 0);
        due("could(1, 2)", later.could(1, 2), 56);
        LentNames lost = told("?a9!a.");
        due("could on the day it drowned", lost.could(0, 0), 63);
        due("could on a later day", lost.could(0, 1), 0);
        due("could without ?", told("Ba1").could(0, 0), 2);
        due("could(5, 0) before NO", told("A").could(5, 0), UNKNOWN);
        due("could(0, -1) before NO", told("A").could(0, -1), UNKNOWN);
        due("could(0, 9): NO", told("A").could(0, 9), NO);
        due("could(0, 1): day behind before STATE", told("!a").could(0, 1), UNKNOWN);
        due("could(0, 0): STATE", told("!a").could(0, 0), STATE);
    }

    private static void given(String what, LentNames port, boolean most, int hulls, int names, int... want) {
        for (int i = -2; i <= 5; i++) {
            int got = most ? port.most(hulls, names, i) : port.stable(hulls, names, i);
            due(what + " " + i, got, want[i + 2]);
        }
    }

    private static void most() {
        promise = 14;
        LentNames port = new LentNames();
        given("most", port, true, 63, 31, 5, 50, 0, 1, 2, 3, 4, NONE);
        given("most", port, true, 0, 31, 0, 0, NONE, NONE, NONE, NONE, NONE, NONE);
        given("most", port, true, 63, 0, 0, 0, NONE, NONE, NONE, NONE, NONE, NONE);
        given("most", port, true, 42, 20, 2, 20, NONE, 2, NONE, 4, NONE, NONE);
        // more hulls go before more worth
        port.hull(1, 0, 1);
        port.worth(0, 0, 99);
        port.worth(0, 1, 0);
        port.worth(1, 0, 0);
        given("most", port, true, 3, 3, 2, 0, 1, 0, NONE, NONE, NONE, NONE);
        // of like worth the first: hull 0's name first, none behind all names
        LentNames other = new LentNames();
        other.worth(0, 1, 20);
        other.worth(1, 0, 20);
        other.worth(1, 1, 20);
        other.worth(0, 0, 20);
        given("most", other, true, 3, 3, 2, 40, 0, 1, NONE, NONE, NONE, NONE);
        other.worth(1, 0, 21);
        given("most", other, true, 3, 3, 2, 41, 1, 0, NONE, NONE, NONE, NONE);
        other.worth(5, 4, 99);
        given("most", other, true, 48, 16, 1, 99, NONE, NONE, NONE, NONE, NONE, 4);
        due("most i 6", port.most(3, 3, 6), NONE);
        due("most i -3", port.most(3, 3, -3), NONE);
        due("most i LEAST", port.most(3, 3, LEAST), NONE);
        due("most 64", port.most(64, 0, 9), OUTSIDE);
        due("most -1", port.most(-1, 0, 0), OUTSIDE);
        due("most names 32", port.most(0, 32, 0), OUTSIDE);
        due("most names -1", port.most(0, -1, 0), OUTSIDE);
        tell(port, "Aa9!a");
        due("the log does not matter", port.most(1, 1, 0), 0);
    }

    private static void stable() {
        promise = 15;
        LentNames port = new LentNames();
        given("stable", port, false, 63, 31, 5, 50, 0, 1, 2, 3, 4, NONE);
        given("stable", port, false, 60, 3, 2, 20, NONE, NONE, 0, 1, NONE, NONE);
        // two stable givings: hulls get what they like best
        port.worth(0, 0, 20);
        port.worth(1, 1, 20);
        port.rank(0, 102345);
        port.rank(1, 12345);
        given("stable", port, false, 3, 3, 2, 40, 0, 1, NONE, NONE, NONE, NONE);
        // a hull that is sent away asks on
        port = new LentNames();
        port.rank(0, 543210);
        given("stable", port, false, 35, 3, 2, 20, 1, NONE, NONE, NONE, NONE, 0);
        port.hull(0, 0, 1);
        given("stable", port, false, 35, 3, 2, 20, NONE, 1, NONE, NONE, NONE, 0);
        // a little more is liked better
        port = new LentNames();
        port.worth(2, 3, 11);
        given("stable", port, false, 4, 31, 1, 11, NONE, NONE, 3, NONE, NONE, NONE);
        port.worth(2, 1, 11);
        given("stable", port, false, 4, 31, 1, 11, NONE, NONE, 1, NONE, NONE, NONE);
        // a name of no worth is liked better than none
        port = new LentNames();
        port.worth(2, 3, 0);
        given("stable", port, false, 4, 8, 1, 0, NONE, NONE, 3, NONE, NONE, NONE);
        due("stable i 6", port.stable(3, 3, 6), NONE);
        due("stable i -3", port.stable(3, 3, -3), NONE);
        due("stable 64", port.stable(64, 0, 9), OUTSIDE);
        due("stable -1", port.stable(-1, 0, 0), OUTSIDE);
        due("stable names 32", port.stable(0, 32, 0), OUTSIDE);
        due("stable names -1", port.stable(0, -1, 0), OUTSIDE);
    }

    private static void left(LentNames port, int hulls, int names, int giving, int hull, int name) {
        due("leave " + giving + " hull", port.leave(hulls, names, giving, 0), hull);
        due("leave " + giving + " name", port.leave(hulls, names, giving, 1), name);
    }

    private static void leave() {
        promise = 16;
        LentNames port = new LentNames();
        left(port, 63, 31, 123450, NONE, NONE);
        left(port, 63, 31, 0, 0, 0);
        left(port, 0, 0, 0, NONE, NONE);
        left(port, 63, 31, 213450, 0, 0);
        left(port, 3, 31, 100000, 1, 1);
        left(port, 62, 30, 23450, NONE, NONE);
        left(port, 62, 30, 2345, 1, 1);
        // hull 2 would leave for name 3, but its name likes it less; name 4 would take it
        port.worth(2, 3, 50);
        port.worth(2, 4, 40);
        port.rank(4, 213450);
        left(port, 63, 31, 120453, 2, 2);
        left(port, 63, 31, 123450, 2, 3);
        port.rank(3, 302145);
        left(port, 63, 31, 123450, 2, 4);
        // the first name, not the one liked best
        port = new LentNames();
        port.worth(0, 4, 99);
        left(port, 1, 31, 0, 0, 0);
        port.hull(0, 0, 16);
        left(port, 1, 31, 0, 0, 4);
        left(port, 1, 31, 100000, STATE, STATE);
        left(port, 63, 31, -1, STATE, STATE);
        left(port, 63, 31, LEAST, STATE, STATE);
        left(port, 63, 31, 1000000, STATE, STATE);
        left(port, 63, 31, 10000000, STATE, STATE);
        left(port, 63, 31, 60000, STATE, STATE);
        left(port, 63, 31, 11000, STATE, STATE);
        left(port, 1, 31, 10000, STATE, STATE);
        left(port, 63, 30, 10000, STATE, STATE);
        due("leave hulls 64", port.leave(64, 0, -1, 0), OUTSIDE);
        due("leave hulls -1", port.leave(-1, 0, 0, 0), OUTSIDE);
        due("leave names 32", port.leave(0, 32, -1, 0), OUTSIDE);
        due("leave names -1", port.leave(0, -1, 0, 0), OUTSIDE);
        due("leave what 2", port.leave(0, 0, -1, 2), OUTSIDE);
        due("leave what -1", port.leave(0, 0, 0, -1), OUTSIDE);
    }

    private static void voyaged(LentNames port, int... want) {
        for (int i = -1; i <= 5; i++) {
            due("voyages(" + i + ")", port.voyages(i), want[i + 1]);
        }
    }

    private static void voyages() {
        promise = 17;
        LentNames port = new LentNames();
        voyaged(port, 0, NONE, NONE, NONE, NONE, NONE, NONE);
        for (int h = 0; h < 6; h++) {
            port.hull(h, 1, 9);
        }
        voyaged(port, 18, 0, 0, 1, 1, 2, 2);
        port.hull(0, 1, 4);
        port.hull(5, 1, 5);
        voyaged(port, 9, 0, 1, 2, 3, 4, 0);
        port.hull(3, 1, 0);
        voyaged(port, 9, 0, 1, 2, NONE, 3, 0);
        port.hull(1, 0, 1);
        port.hull(2, 0, 1);
        voyaged(port, 18, 1, 0, 0, NONE, 1, 1);
        port.hull(4, 0, 0);
        voyaged(port, NONE, NONE, NONE, NONE, NONE, NONE, NONE);
        port.hull(4, 1, 0);
        voyaged(port, 18, 1, 0, 0, NONE, NONE, 1);
        due("voyages(6)", port.voyages(6), OUTSIDE);
        due("voyages(-2)", port.voyages(-2), OUTSIDE);
        due("voyages(LEAST)", port.voyages(LEAST), OUTSIDE);
    }

    private static void letGo(LentNames port, int name, int days) {
        due("letGo(0)", port.letGo(0), name);
        due("letGo(1)", port.letGo(1), days);
    }

    private static void letGo() {
        promise = 18;
        LentNames port = new LentNames();
        letGo(port, 0, 0);
        port.hull(0, 1, 7);
        port.hull(1, 1, 6);
        letGo(port, 0, 7);
        port.hull(0, 0, 3);
        port.hull(1, 0, 3);
        letGo(port, 2, 7);
        port.hull(2, 1, 5);
        port.hull(2, 0, 28);
        letGo(port, 2, 7);
        port.hull(2, 0, 4);
        letGo(port, 3, 7);
        port.hull(3, 1, 1);
        port.hull(4, 1, 1);
        port.hull(3, 0, 8);
        port.hull(4, 0, 16);
        // without c, d or e not all could sail
        letGo(port, 0, 13);
        port.hull(0, 0, 1);
        letGo(port, 1, 13);
        port.hull(1, 0, 2);
        due("voyages(-1)", port.voyages(-1), 7);
        letGo(port, NONE, NONE);
        port.hull(5, 1, 1);
        port.hull(5, 0, 0);
        letGo(port, NONE, NONE);
        due("letGo(2)", port.letGo(2), OUTSIDE);
        due("letGo(-1)", port.letGo(-1), OUTSIDE);
    }

    private static void home() {
        promise = 19;
        LentNames port = new LentNames();
        due("home(0, 1, 0)", port.home(0, 1, 0), 19);
        due("home(0, 1, 1)", port.home(0, 1, 1), 20);
        due("home(4, 7, 0)", port.home(4, 7, 0), 893871739L);
        due("home(4, 7, 1)", port.home(4, 7, 1), 1280000000L);
        port.luck(1, 9);
        due("home(1, 7, 0)", port.home(1, 7, 0), 93206534790699L);
        due("home(1, 7, 1)", port.home(1, 7, 1), 100000000000000L);
        port.luck(1, 10);
        due("home(1, 7, 0)", port.home(1, 7, 0), 1);
        due("home(1, 7, 1)", port.home(1, 7, 1), 1);
        port.luck(1, 0);
        due("home(1, 2, 0)", port.home(1, 2, 0), 81);
        due("home(1, 2, 1)", port.home(1, 2, 1), 100);
        port.luck(1, 2);
        due("home(1, 1, 0)", port.home(1, 1, 0), 23);
        due("home(1, 1, 1)", port.home(1, 1, 1), 25);
        port.luck(1, 4);
        due("home(1, 2, 0)", port.home(1, 2, 0), 2209);
        due("home(1, 2, 1)", port.home(1, 2, 1), 2500);
        due("home(5, 0, 2)", port.home(5, 0, 2), LOST + UNKNOWN);
        due("home(-1, 1, 0)", port.home(-1, 1, 0), LOST + UNKNOWN);
        due("home(0, 0, 0)", port.home(0, 0, 0), LOST + OUTSIDE);
        due("home(0, 8, 0)", port.home(0, 8, 0), LOST + OUTSIDE);
        due("home(0, 1, 2)", port.home(0, 1, 2), LOST + OUTSIDE);
        due("home(0, 1, -1)", port.home(0, 1, -1), LOST + OUTSIDE);
        due("home(0, LEAST, 0)", port.home(0, LEAST, 0), LOST + OUTSIDE);
    }

    private static void asks() {
        promise = 20;
        LentNames port = new LentNames();
        due("asks(0, 1, 0)", port.asks(0, 1, 0), 0);
        due("asks(0, 1, 1)", port.asks(0, 1, 1), 1);
        due("asks(0, 1, 20)", port.asks(0, 1, 20), 1);
        due("asks(0, 1, 21)", port.asks(0, 1, 21), 2);
        due("asks(0, 2, 400)", port.asks(0, 2, 400), 39);
        due("asks(0, 2, 401)", port.asks(0, 2, 401), 40);
        port.luck(4, 0);
        // 999 times 0.5217031
        due("asks(4, 7, 999)", port.asks(4, 7, 999), 522);
        port.luck(4, 9);
        due("asks(4, 7, 999)", port.asks(4, 7, 999), 68);
        port.luck(4, 10);
        due("asks(4, 7, 999)", port.asks(4, 7, 999), 0);
        due("asks(5, 0, -1)", port.asks(5, 0, -1), UNKNOWN);
        due("asks(-1, 1, 1)", port.asks(-1, 1, 1), UNKNOWN);
        due("asks(0, 0, 1)", port.asks(0, 0, 1), OUTSIDE);
        due("asks(0, 8, 1)", port.asks(0, 8, 1), OUTSIDE);
        due("asks(0, 1, 1000)", port.asks(0, 1, 1000), OUTSIDE);
        due("asks(0, 1, -1)", port.asks(0, 1, -1), OUTSIDE);
    }

    private static void wintered(LentNames port, int seed, int days, int hulls, int names, int homes) {
        String call = "winter(" + seed + ", " + days + ", ";
        due(call + "0)", port.winter(seed, days, 0), hulls);
        due(call + "1)", port.winter(seed, days, 1), names);
        due(call + "2)", port.winter(seed, days, 2), homes);
    }

    private static void winter() {
        promise = 21;
        LentNames port = new LentNames();
        wintered(port, 0, 60, 0, 0, 0);
        port.luck(0, 10);
        port.hull(3, 1, 2);
        // sails on days 0, 2, 4 and so on; is home on days 2, 4, 6, 8
        wintered(port, 1, 9, 0, 0, 4);
        wintered(port, 1, 8, 0, 0, 3);
        wintered(port, 1, 1, 0, 0, 0);
        // five names: the sixth hull stays
        for (int h = 0; h < 6; h++) {
            port.hull(h, 1, 1);
            if (h < 5) {
                port.luck(h, 10);
            }
        }
        wintered(port, 1, 3, 0, 0, 10);
        // one hull, under c alone: x becomes 20999, 2111, 27325, 17802; left over by 100: 99, 11, 25, 2
        port = new LentNames();
        port.hull(1, 1, 9);
        port.hull(1, 0, 4);
        port.luck(2, 0);
        wintered(port, 279, 3, 0, 0, 0);
        wintered(port, 279, 4, 1, 4, 0);
        wintered(port, 279, 60, 1, 4, 0);
        port.luck(2, 7);
        wintered(port, 279, 4, 1, 4, 0);
        port.luck(2, 8);
        wintered(port, 279, 4, 0, 0, 0);
        // two hulls: the second draw of each day is for hull 4, under a: 2 falls on it on day 1
        port = new LentNames();
        port.luck(0, 7);
        port.luck(1, 7);
        port.hull(2, 1, 9);
        port.hull(2, 0, 2);
        port.hull(4, 1, 9);
        wintered(port, 279, 1, 0, 0, 0);
        wintered(port, 279, 2, 1, 1, 0);
        // hull 0 sails, drowns and comes home as all others do
        LentNames first = new LentNames();
        first.luck(0, 7);
        first.hull(0, 1, 9);
        wintered(first, 279, 3, 0, 0, 0);
        wintered(first, 279, 4, 1, 1, 0);
        first.hull(0, 1, 3);
        wintered(first, 279, 4, 1, 1, 1);
        // they that MAY not sail do not, and draw nothing
        port.hull(3, 1, 1);
        port.hull(3, 0, 0);
        wintered(port, 279, 2, 1, 1, 0);
        due("winter(-1, 0, 3)", port.winter(-1, 0, 3), OUTSIDE);
        due("winter(-1, 1, 0)", port.winter(-1, 1, 0), OUTSIDE);
        due("winter(10000, 1, 0)", port.winter(10000, 1, 0), OUTSIDE);
        due("winter(0, 0, 0)", port.winter(0, 0, 0), OUTSIDE);
        due("winter(0, 61, 0)", port.winter(0, 61, 0), OUTSIDE);
        due("winter(0, 1, 3)", port.winter(0, 1, 3), OUTSIDE);
        due("winter(0, 1, -1)", port.winter(0, 1, -1), OUTSIDE);
        due("winter(9999, 60, 0)", port.winter(9999, 60, 0) >= 0 ? 1 : 0, 1);
    }

    private static void setAll(LentNames port, int by) {
        port.hull(2, 0, 3 + by);
        port.hull(3, 1, 4 + by);
        port.luck(1, 6 + by);
        port.rank(4, by == 0 ? 543210 : 354210);
        port.worth(5, 4, 50 + by);
    }

    private static void isSet(String when, LentNames port, int by) {
        due(when + " MAY", port.told(12), 3 + by);
        due(when + " VOYAGE", port.told(23), 4 + by);
        due(when + " LUCK", port.told(31), 6 + by);
        due(when + " RANK", port.told(44), by == 0 ? 543210 : 354210);
        due(when + " WORTH", port.told(129), 50 + by);
    }

    private static void images() {
        promise = 22;
        LentNames port = told("Aa1");
        setAll(port, 0);
        due("image(2)", port.image(2), OUTSIDE);
        due("image(-1)", port.image(-1), OUTSIDE);
        due("image(1)", port.image(1), 1);
        setAll(port, 1);
        isSet("image changes nothing", port, 1);
        due("image(0)", port.image(0), 1);
        setAll(port, 2);
        promise = 23;
        due("restore(1)", port.restore(1), 1);
        isSet("image 1", port, 0);
        due("signs stay", port.told(0), 3);
        due("the log stays", port.log(20), 0);
        port.wipe();
        due("restore(0)", port.restore(0), 1);
        isSet("image 0", port, 1);
        due("signs are not kept", port.told(0), 0);
        setAll(port, 2);
        due("restore(0) once more", port.restore(0), 1);
        isSet("image 0 once more", port, 1);
        setAll(port, 2);
        due("image(0) once more", port.image(0), 1);
        setAll(port, 1);
        due("restore(0)", port.restore(0), 1);
        isSet("image 0 kept anew", port, 2);
        due("restore(1)", port.restore(1), 1);
        isSet("image 1 is as it was", port, 0);
        LentNames other = new LentNames();
        due("restore(0)", other.restore(0), STATE);
        other.image(1);
        due("restore(0)", other.restore(0), STATE);
        due("restore(1)", other.restore(1), 1);
        due("restore(2)", other.restore(2), OUTSIDE);
        due("restore(-1)", other.restore(-1), OUTSIDE);
    }

    private static void told() {
        promise = 24;
        LentNames port = told("Aa1?");
        due("told(0)", port.told(0), 4);
        for (int h = 0; h < 6; h++) {
            port.hull(h, 0, h + 1);
            port.hull(h, 1, h + 2);
            for (int n = 0; n < 5; n++) {
                port.worth(h, n, 10 * h + n);
            }
        }
        for (int n = 0; n < 5; n++) {
            port.luck(n, n + 3);
        }
        port.rank(3, 450123);
        for (int h = 0; h < 6; h++) {
            due("told(10..)", port.told(10 + h), h + 1);
            due("told(20..)", port.told(20 + h), h + 2);
            for (int n = 0; n < 5; n++) {
                due("told(100..)", port.told(100 + 5 * h + n), 10 * h + n);
            }
        }
        for (int n = 0; n < 5; n++) {
            due("told(30..)", port.told(30 + n), n + 3);
            due("told(40..)", port.told(40 + n), n == 3 ? 450123 : 12345);
        }
        for (int what : new int[] {-1, 1, 9, 16, 19, 26, 29, 35, 39, 45, 50, 99, 130, LEAST, GREATEST}) {
            due("told(" + what + ")", port.told(what), OUTSIDE);
        }
    }

    public static void main(String[] args) {
        newObject();
        hull();
        luck();
        worth();
        rank();
        say();
        wipe();
        fault();
        judge();
        log();
        who();
        filled();
        could();
        most();
        stable();
        leave();
        voyages();
        letGo();
        home();
        asks();
        winter();
        images();
        told();
        System.out.println("PromisesTest: " + rows + " answers, " + wrong + " wrong");
        if (wrong != 0) {
            System.exit(1);
        }
    }
}
