/**
 * What the document says with no edge in it: its first line clause by clause, then the sentences that no test of edges
 * quotes. Each test stands for the sentence in its remark, by ordinary calls.
 */
public final class DocumentTest {
    private static final int NONE = Edges.NONE, DROWNED = Edges.DROWNED, UNKNOWN = Edges.UNKNOWN, STATE = Edges.STATE;
    private static final Edges edges = new Edges();

    private static void due(String call, long got, long want) {
        edges.due(call, got, want);
    }

    // ---- the first line

    /** "Ships with borrowed names: a port in which a hull may sail only under a name that is at home" */
    private static void borrowedNames() {
        LentNames port = Edges.told("Ca4..Fa1");
        due("F under a, which is at sea", port.judge(1), 4);
        Edges.tell(port, "Ca4..Fb1");
        due("F under b, which is at home", port.judge(1), NONE);
        Edges.tell(port, "Ca4....Fa1");
        due("F under a, which came home", port.judge(1), NONE);
        Edges.tell(port, "Ca4!a....Fa1");
        due("F under a, which drowned", port.judge(1), 3);
    }

    /** "logs told as small texts, day by day, the first part that can not be, and why" */
    private static void smallTexts() {
        LentNames port = Edges.told("Ab3.Bc2Dd1.Dd2.Ab1Bb1.!e");
        due("fault()", port.fault(), NONE);
        due("judge(0)", port.judge(0), 8);
        due("judge(1)", port.judge(1), 4);
        Edges.tell(port, "Ab3.Bc2Dd1.Dd2.Ab1Ba1.!e");
        due("judge(0)", port.judge(0), 10);
        due("judge(1)", port.judge(1), 4);
    }

    /** "who is where as whom, which name is due when, which drowned" */
    private static void whereAsWhom() {
        LentNames port = Edges.told("Ab3Ea9.Bc2!aDd1.");
        int[] names = {1, 2, NONE, NONE, DROWNED, NONE};
        for (int h = 0; h < 6; h++) {
            due("the name of " + h, port.log(10 + h), names[h]);
        }
        int[] hulls = {DROWNED, 0, 1, NONE, NONE};
        int[] due = {DROWNED, 3, 3, 2, 2};
        for (int n = 0; n < 5; n++) {
            due("the hull of " + n, port.log(20 + n), hulls[n]);
            due("the day of " + n, port.log(30 + n), due[n]);
        }
    }

    /** "logs with hulls that are not told: all ways to fill them, who can have been under a name on a day" */
    private static void notTold() {
        LentNames port = Edges.told("?b3Ca1.?a9Cd2");
        due("ways", port.filled(-1), 5 * 4);
        due("the first of them", port.filled(0), 0);
        due("the first of them", port.filled(1), 1);
        due("under b on day 1", port.could(1, 1), 63 - 4);
        due("under a on day 0", port.could(0, 0), 4);
        due("under a on day 1", port.could(0, 1), 63 - 4);
    }

    /** "names given for today so that most sail, and of most worth" */
    private static void namesGiven() {
        LentNames port = new LentNames();
        port.hull(1, 0, 1);
        port.worth(0, 0, 90);
        port.worth(2, 3, 40);
        due("A, B, C sail", port.most(7, 9, -2), 2);
        due("of the worth", port.most(7, 9, -1), 130);
        due("A", port.most(7, 9, 0), 0);
        due("B", port.most(7, 9, 1), NONE);
        due("C", port.most(7, 9, 2), 3);
        // more that sail before more worth
        due("A and B sail", port.most(3, 9, -2), 2);
        due("of the worth", port.most(3, 9, -1), 20);
    }

    /** "givings that no hull and name would leave, which of them the hulls like best, who would leave one" */
    private static void notLeft() {
        LentNames port = new LentNames();
        port.worth(3, 2, 30);
        port.worth(4, 1, 30);
        port.rank(1, 345012);
        port.rank(2, 435012);
        due("D", port.stable(24, 6, 3), 2);
        due("E", port.stable(24, 6, 4), 1);
        due("nobody leaves it", port.leave(24, 6, 320, 0), NONE);
        due("nor the other one", port.leave(24, 6, 230, 0), NONE);
        due("D leaves this one", port.leave(24, 6, 200, 0), 3);
        due("for c", port.leave(24, 6, 200, 1), 2);
    }

    /** "voyages that wait: the least days till all are at home; which name to let go" */
    private static void voyagesThatWait() {
        LentNames port = new LentNames();
        int[] days = {6, 5, 4, 3, 3, 0};
        for (int h = 0; h < 6; h++) {
            port.hull(h, 1, days[h]);
            port.hull(h, 0, 14);
        }
        due("the least days", port.voyages(-1), 8);
        int[] names = {1, 2, 3, 2, 3, NONE};
        for (int h = 0; h < 6; h++) {
            due("the name of " + h, port.voyages(h), names[h]);
        }
        due("the name to let go", port.letGo(0), 0);
        due("the days then", port.letGo(1), 8);
    }

    /** "how likely a hull comes home, exactly, what an insurer asks" */
    private static void howLikely() {
        LentNames port = new LentNames();
        port.luck(3, 8);
        due("98 by 100, three times", port.home(3, 3, 0), 117649);
        due("in lowest terms", port.home(3, 3, 1), 125000);
        due("500 times 7351 by 125000", port.asks(3, 3, 500), 30);
    }

    /** "winters by draws; images" */
    private static void wintersAndImages() {
        LentNames port = new LentNames();
        port.luck(0, 7);
        port.hull(0, 1, 9);
        due("x becomes 20999, 2111, 27325", port.winter(279, 3, 0), 0);
        due("and 17802: below 3, left over by 100", port.winter(279, 4, 0), 1);
        due("image(1)", port.image(1), 1);
        port.luck(0, 8);
        due("not below 2", port.winter(279, 4, 0), 0);
        due("restore(1)", port.restore(1), 1);
        due("below 3 again", port.winter(279, 4, 0), 1);
    }

    // ---- sentences of the terms

    /** "UNKNOWN -1 (there is no such HULL, NAME, day)" */
    private static void noSuch() {
        LentNames port = Edges.told("Aa2.");
        due("no such HULL", port.hull(6, 0, 1), UNKNOWN);
        due("no such NAME", port.luck(5, 1), UNKNOWN);
        due("no such NAME to a HULL", port.worth(1, 5, 1), UNKNOWN);
        due("no such day", port.who(0, 2), UNKNOWN);
        due("no such day", port.could(0, -1), UNKNOWN);
    }

    /** "MAY: under which NAMES a HULL may sail": in a LOG, in a GIVING, for VOYAGES, in A WINTER. */
    private static void maySail() {
        LentNames port = Edges.told("Ba2");
        port.hull(1, 0, 24);
        port.hull(1, 1, 2);
        due("judge(1)", port.judge(1), 5);
        due("most", port.most(2, 31, 1), 3);
        due("stable", port.stable(2, 31, 1), 3);
        due("leave", port.leave(2, 31, 10000, 0), STATE);
        due("voyages", port.voyages(1), 3);
        for (int n = 0; n < 3; n++) {
            port.luck(n, 0);
        }
        port.luck(3, 10);
        due("winter", port.winter(0, 60, 0), 0);
        due("winter", port.winter(0, 60, 2), 29);
        Edges.tell(port, "?a1");
        due("filled", port.filled(-1), 5);
        due("could", port.could(0, 0), 63 - 2);
    }

    /** "A LOG is a text on a PAD": what it says is what signs say one behind another, however they came there. */
    private static void textOnPad() {
        LentNames port = new LentNames();
        int[] faults = {1, 2, NONE, NONE, 5, NONE, 6, 6};
        String log = "Bc2.!ca.";
        for (int i = 0; i < faults.length; i++) {
            port.say(log.charAt(i));
            due("fault() behind sign " + i, port.fault(), faults[i]);
        }
        due("wipe()", port.wipe(), faults.length);
        Edges.tell(port, "Bc2.!c.");
        due("fault()", port.fault(), NONE);
        due("log(0)", port.log(0), 2);
    }

    /** "by RANK (a row of all six; 0, 1, .. at first)" */
    private static void rankAtFirst() {
        LentNames port = new LentNames();
        for (int n = 0; n < 5; n++) {
            due("RANK at first", port.told(40 + n), 12345);
            for (int hulls = 1; hulls < 64; hulls++) {
                due("the first of " + hulls, port.stable(hulls, 1 << n, Integer.numberOfTrailingZeros(hulls)), n);
            }
            port = new LentNames();
        }
    }

    /** "HOME: that a HULL under a NAME comes home from k days": by LUCK of that NAME, of no other. */
    private static void homeUnderName() {
        LentNames port = new LentNames();
        for (int n = 0; n < 5; n++) {
            port.luck(n, 2 * n + 2);
        }
        int[] upper = {23, 47, 24, 49, 1};
        int[] lower = {25, 50, 25, 50, 1};
        for (int n = 0; n < 5; n++) {
            due("home(" + n + ", 1, 0)", port.home(n, 1, 0), upper[n]);
            due("home(" + n + ", 1, 1)", port.home(n, 1, 1), lower[n]);
            due("asks(" + n + ", 1, 100)", port.asks(n, 1, 100), 8 - 2 * n);
        }
    }

    /** "HULLS at home by numbers sail under the least NAME at home that they MAY, for their VOYAGE's days" */
    private static void voyagesDays() {
        for (int days = 1; days <= 9; days++) {
            LentNames port = new LentNames();
            port.luck(0, 10);
            port.hull(4, 1, days);
            for (int length = 1; length <= 60; length++) {
                due("home by voyages of " + days + " in " + length, port.winter(3, length, 2), (length - 1) / days);
            }
        }
    }

    /** "it DROWNS with its NAME. How many HULLS have DROWNED, which NAMES (bits), how many came home." */
    private static void drownsWithName() {
        // B alone, for a day each time, under c, then, when that has drowned, no more
        LentNames port = new LentNames();
        port.hull(1, 1, 1);
        port.hull(1, 0, 4);
        port.luck(2, 7);
        due("drowned", port.winter(279, 4, 0), 1);
        due("with c", port.winter(279, 4, 1), 4);
        due("came home", port.winter(279, 4, 2), 3);
        due("came home till the end", port.winter(279, 60, 2), 3);
        // A, C and E for a day each, under a, b and c: the fourth draw is A's on day 1, under a
        for (int h = 0; h < 6; h += 2) {
            port.hull(h, 1, 1);
        }
        port.hull(1, 1, 0);
        port.luck(0, 7);
        port.luck(1, 7);
        due("drowned", port.winter(279, 2, 0), 1);
        due("with a", port.winter(279, 2, 1), 1);
        due("came home", port.winter(279, 2, 2), 3);
        due("came home by the next day", port.winter(279, 3, 2), 5);
    }

    // ---- sentences of the promises

    /** "The LOG on the PAD JUDGED: the PART (what = 0), why (1)" */
    private static void partAndWhy() {
        LentNames port = Edges.told("Aa1.Bb2Bc1");
        due("the PART", port.judge(0), 3);
        due("why", port.judge(1), 2);
    }

    /** "the NAME of a HULL (10 and the HULL), the HULL of a NAME (20 and it), the day on which it is at home (30 and it" */
    private static void behindLog() {
        LentNames port = Edges.told("Aa1Fe5..");
        due("the NAME of F", port.log(15), 4);
        due("the HULL of e", port.log(24), 5);
        due("e is at home", port.log(34), 5);
        due("a is at home", port.log(30), 2);
    }

    /** "how often it came home by then (40 and it); NONE, DROWNED." */
    private static void howOften() {
        LentNames port = Edges.told("Aa1Ee9.Ba2!e..");
        due("a came home", port.log(40), 2);
        due("e came home", port.log(44), 0);
        due("the HULL of a", port.log(20), NONE);
        due("the HULL of e", port.log(24), DROWNED);
    }

    /** "WHO bore a NAME on a day; NONE." */
    private static void whoBore() {
        LentNames port = Edges.told(".Dd2...Ed1");
        int[] bearers = {NONE, 3, 3, NONE, 4};
        for (int day = 0; day <= 4; day++) {
            due("who(3, " + day + ")", port.who(3, day), bearers[day]);
        }
    }

    /** "WHO can have borne a NAME on a day by all ways, as bits." */
    private static void whoCouldBear() {
        LentNames port = Edges.told("Aa1Bb2.?a1?c1");
        due("could(0, 0)", port.could(0, 0), 1);
        due("could(0, 1)", port.could(0, 1), 63 - 2);
        due("could(2, 1)", port.could(2, 1), 63 - 2);
        due("could(1, 1)", port.could(1, 1), 2);
        due("could(3, 1)", port.could(3, 1), 0);
    }

    /** "MOST of HULLS, NAMES (bits): how many sail (i = -2), WORTH (-1), the NAME of HULL i" and "BEST STABLE, likewise." */
    private static void mostAndStable() {
        LentNames port = new LentNames();
        port.worth(5, 1, 33);
        port.rank(1, 501234);
        int[] most = {2, 43, 2, NONE, NONE, NONE, NONE, 1};
        for (int i = -2; i <= 5; i++) {
            due("most(33, 6, " + i + ")", port.most(33, 6, i), most[i + 2]);
            due("stable(33, 6, " + i + ")", port.stable(33, 6, i), most[i + 2]);
        }
    }

    /** "LEAVE: the HULL (what = 0), the NAME (1)" */
    private static void whoLeaves() {
        LentNames port = new LentNames();
        due("the HULL", port.leave(12, 24, 5000, 0), 2);
        due("the NAME", port.leave(12, 24, 5000, 1), 3);
        due("the HULL", port.leave(12, 24, 4000, 0), 3);
        due("the NAME", port.leave(12, 24, 4000, 1), 4);
    }

    /** "LET GO: the NAME (what = 0), the days then (1); NONE." */
    private static void nameToLetGo() {
        LentNames port = new LentNames();
        port.hull(0, 1, 8);
        port.hull(0, 0, 3);
        port.hull(1, 1, 7);
        port.hull(1, 0, 1);
        due("the NAME", port.letGo(0), 2);
        due("the days then", port.letGo(1), 8);
        port.hull(0, 0, 0);
        due("the NAME", port.letGo(0), NONE);
        due("the days then", port.letGo(1), NONE);
    }

    public static void main(String[] args) {
        borrowedNames();
        smallTexts();
        whereAsWhom();
        notTold();
        namesGiven();
        notLeft();
        voyagesThatWait();
        howLikely();
        wintersAndImages();
        noSuch();
        maySail();
        textOnPad();
        rankAtFirst();
        homeUnderName();
        voyagesDays();
        drownsWithName();
        partAndWhy();
        behindLog();
        howOften();
        whoBore();
        whoCouldBear();
        mostAndStable();
        whoLeaves();
        nameToLetGo();
        edges.end("DocumentTest");
    }
}
