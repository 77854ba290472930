/** Edges of givings (promises 14 to 16): each test stands for the sentence in its remark. */
public final class GivingEdgesTest {
    private static final int NONE = Edges.NONE, OUTSIDE = Edges.OUTSIDE, STATE = Edges.STATE;
    private static final int LEAST = Edges.LEAST, GREATEST = Edges.GREATEST;
    private static final int[] NOT_HULLS = {LEAST, LEAST + 1, -64, -6, -2, -1, 64, 65, 127, 128, 256, 65536,
        GREATEST - 1, GREATEST};
    private static final int[] NOT_NAMES = {LEAST, LEAST + 1, -32, -6, -2, -1, 32, 33, 63, 64, 256, 65536,
        GREATEST - 1, GREATEST};
    private static final Edges edges = new Edges();

    private static void due(String call, long got, long want) {
        edges.due(call, got, want);
    }

    /** All answers of most, from i = -2 on. */
    private static void most(LentNames port, int hulls, int names, int... want) {
        for (int i = -2; i <= 5; i++) {
            due("most(" + hulls + ", " + names + ", " + i + ")", port.most(hulls, names, i), want[i + 2]);
        }
    }

    /** All answers of stable, from i = -2 on. */
    private static void stable(LentNames port, int hulls, int names, int... want) {
        for (int i = -2; i <= 5; i++) {
            due("stable(" + hulls + ", " + names + ", " + i + ")", port.stable(hulls, names, i), want[i + 2]);
        }
    }

    private static void both(LentNames port, int hulls, int names, int... want) {
        most(port, hulls, names, want);
        stable(port, hulls, names, want);
    }

    private static void leave(LentNames port, int hulls, int names, int giving, int hull, int name) {
        String call = "leave(" + hulls + ", " + names + ", " + giving + ", ";
        due(call + "0)", port.leave(hulls, names, giving, 0), hull);
        due(call + "1)", port.leave(hulls, names, giving, 1), name);
    }

    private static void noGiving(LentNames port, int hulls, int names, int giving) {
        leave(port, hulls, names, giving, STATE, STATE);
    }

    private static LentNames worths(int v) {
        LentNames port = new LentNames();
        for (int h = 0; h < 6; h++) {
            for (int n = 0; n < 5; n++) {
                port.worth(h, n, v);
            }
        }
        return port;
    }

    /** A row that begins with a HULL, the others by numbers behind it. */
    private static int rowFrom(int hull) {
        int row = hull;
        for (int other = 0; other < 6; other++) {
            row = other == hull ? row : row * 10 + other;
        }
        return row;
    }

    /** A row that ends with a HULL, the others by numbers before it. */
    private static int rowTo(int hull) {
        int row = 0;
        for (int other = 0; other < 6; other++) {
            row = other == hull ? row : row * 10 + other;
        }
        return row * 10 + hull;
    }

    // ---- what holds for most and stable

    /** "HULLS and NAMES that are told as there (bits)": no HULLS, or no NAMES. */
    private static void noneTold() {
        for (int bits = 0; bits <= 63; bits++) {
            both(new LentNames(), bits, 0, 0, 0, NONE, NONE, NONE, NONE, NONE, NONE);
            both(new LentNames(), 0, bits % 32, 0, 0, NONE, NONE, NONE, NONE, NONE, NONE);
        }
    }

    /** "HULLS and NAMES that are told as there (bits)": all of them. */
    private static void allTold() {
        both(new LentNames(), 63, 31, 5, 50, 0, 1, 2, 3, 4, NONE);
        both(new LentNames(), 63, 30, 4, 40, 1, 2, 3, 4, NONE, NONE);
        both(new LentNames(), 62, 31, 5, 50, NONE, 0, 1, 2, 3, 4);
    }

    /** "HULLS and NAMES that are told as there (bits)": one HULL, one NAME; of bit and number. */
    private static void oneTold() {
        for (int h = 0; h < 6; h++) {
            for (int n = 0; n < 5; n++) {
                LentNames port = new LentNames();
                port.worth(h, n, 90 + n);
                int[] want = {1, 90 + n, NONE, NONE, NONE, NONE, NONE, NONE};
                want[h + 2] = n;
                both(port, 1 << h, 1 << n, want);
                int[] first = {1, 10, NONE, NONE, NONE, NONE, NONE, NONE};
                first[2] = n;
                both(new LentNames(), 63, 1 << n, first);
            }
        }
    }

    /** "some HULLS get a NAME each (MAY)": who MAY sail under none of the NAMES told gets none. */
    private static void mayBinds() {
        for (int h = 0; h < 6; h++) {
            for (int n = 0; n < 5; n++) {
                LentNames port = new LentNames();
                port.hull(h, 0, 1 << n);
                int[] want = {1, 10, NONE, NONE, NONE, NONE, NONE, NONE};
                want[h + 2] = n;
                both(port, 1 << h, 31, want);
                both(port, 1 << h, 31 - (1 << n), 0, 0, NONE, NONE, NONE, NONE, NONE, NONE);
                port.hull(h, 0, 0);
                both(port, 1 << h, 31, 0, 0, NONE, NONE, NONE, NONE, NONE, NONE);
            }
        }
        LentNames port = new LentNames();
        for (int h = 0; h < 6; h++) {
            port.hull(h, 0, 0);
        }
        both(port, 63, 31, 0, 0, NONE, NONE, NONE, NONE, NONE, NONE);
    }

    /** "GIVING for today (the LOG does not matter)": drowned, at sea, a FAULT, a full PAD; nor do VOYAGES. */
    private static void logDoesNotMatter() {
        for (String log : new String[] {"Aa9", "Aa9!a", "A", "?a1", "!b", Edges.dots(48), "Aa1Bb1Cc1Dd1Ee1!a!b!c!d!e"}) {
            LentNames port = Edges.told(log);
            both(port, 63, 31, 5, 50, 0, 1, 2, 3, 4, NONE);
            leave(port, 63, 31, 0, 0, 0);
            leave(port, 63, 31, 123450, NONE, NONE);
        }
        LentNames port = new LentNames();
        port.hull(0, 1, 9);
        port.hull(5, 1, 1);
        both(port, 63, 31, 5, 50, 0, 1, 2, 3, 4, NONE);
    }

    /** Promise 14: "how many sail (i = -2), WORTH (-1), the NAME of HULL i; NONE (no such HULL, i below -2, too)"; 15: "likewise" */
    private static void otherPlaces() {
        for (int i : Edges.NUMBERS) {
            int want = i == -2 ? 5 : i == -1 ? 50 : i >= 0 && i <= 4 ? i : NONE;
            due("most(63, 31, " + i + ")", new LentNames().most(63, 31, i), want);
            due("stable(63, 31, " + i + ")", new LentNames().stable(63, 31, i), want);
        }
    }

    /** Promises 14 and 15: "OUTSIDE: bits 0 to 63, 0 to 31", whatever i is. */
    private static void bitsRefused() {
        for (int bits : NOT_HULLS) {
            for (int i : new int[] {LEAST, -3, -2, 0, 6}) {
                edges.refused("most(" + bits + ", 31, " + i + ")", p -> p.most(bits, 31, i), OUTSIDE);
                edges.refused("stable(" + bits + ", 31, " + i + ")", p -> p.stable(bits, 31, i), OUTSIDE);
            }
        }
        for (int bits : NOT_NAMES) {
            for (int i : new int[] {LEAST, -3, -2, 0, 6}) {
                edges.refused("most(63, " + bits + ", " + i + ")", p -> p.most(63, bits, i), OUTSIDE);
                edges.refused("stable(63, " + bits + ", " + i + ")", p -> p.stable(63, bits, i), OUTSIDE);
            }
        }
        for (int hulls : Edges.NUMBERS) {
            for (int names : Edges.NUMBERS) {
                boolean good = hulls >= 0 && hulls <= 63 && names >= 0 && names <= 31;
                int want = good ? Math.min(Integer.bitCount(hulls), Integer.bitCount(names)) : OUTSIDE;
                due("most(" + hulls + ", " + names + ", -2)", new LentNames().most(hulls, names, -2), want);
                due("stable(" + hulls + ", " + names + ", -2)", new LentNames().stable(hulls, names, -2), want);
            }
        }
    }

    // ---- promise 14

    /** "MOST: as many HULLS as can be, of these GIVINGS the greatest WORTH": more HULLS go before all WORTH. */
    private static void manyBeforeWorth() {
        LentNames port = worths(0);
        port.worth(1, 0, 99);
        port.hull(0, 0, 1);
        most(port, 3, 3, 2, 0, 0, 1, NONE, NONE, NONE, NONE);
        most(port, 3, 1, 1, 99, NONE, 0, NONE, NONE, NONE, NONE);
        // each HULL but the last MAY have what the one before it would have
        LentNames chain = worths(99);
        for (int h = 0; h < 5; h++) {
            chain.hull(h, 0, h == 0 ? 1 : 3 << h - 1);
            chain.worth(h, h, 0);
        }
        most(chain, 31, 31, 5, 0, 0, 1, 2, 3, 4, NONE);
        most(chain, 30, 31, 4, 396, NONE, 0, 1, 2, 3, NONE);
    }

    /** "of these GIVINGS the greatest WORTH": of one more, of nothing (0) and of all that can be (99 each). */
    private static void greatestWorth() {
        most(worths(0), 63, 31, 5, 0, 0, 1, 2, 3, 4, NONE);
        most(worths(99), 63, 31, 5, 495, 0, 1, 2, 3, 4, NONE);
        for (int h = 0; h < 6; h++) {
            LentNames port = worths(99);
            for (int n = 0; n < 5; n++) {
                port.worth(h, n, 98);
            }
            int[] want = {5, 495, NONE, NONE, NONE, NONE, NONE, NONE};
            for (int other = 0; other < 6; other++) {
                want[other + 2] = other == h ? NONE : other < h ? other : other - 1;
            }
            most(port, 63, 31, want);
        }
        // not each by itself: the sum
        LentNames sum = new LentNames();
        sum.worth(0, 0, 30);
        sum.worth(0, 1, 29);
        sum.worth(1, 0, 29);
        sum.worth(1, 1, 27);
        most(sum, 3, 3, 2, 58, 1, 0, NONE, NONE, NONE, NONE);
        sum.worth(1, 1, 29);
        most(sum, 3, 3, 2, 59, 0, 1, NONE, NONE, NONE, NONE);
        sum.worth(1, 1, 28);
        most(sum, 3, 3, 2, 58, 0, 1, NONE, NONE, NONE, NONE);
    }

    /** "the first (HULL 0's NAME first, none behind all NAMES)": of GIVINGS with as many HULLS and the same WORTH. */
    private static void firstGiving() {
        LentNames port = new LentNames();
        most(port, 3, 16, 1, 10, 4, NONE, NONE, NONE, NONE, NONE);
        most(port, 48, 1, 1, 10, NONE, NONE, NONE, NONE, 0, NONE);
        most(port, 42, 26, 3, 30, NONE, 1, NONE, 3, NONE, 4);
        // HULL 0 has e or none: e, though HULL 1 then has a later NAME
        port.hull(0, 0, 16);
        most(port, 3, 17, 2, 20, 4, 0, NONE, NONE, NONE, NONE);
        port.hull(1, 0, 17);
        port.hull(2, 0, 1);
        most(port, 7, 17, 2, 20, 4, 0, NONE, NONE, NONE, NONE);
        // the same WORTH either way
        LentNames cross = new LentNames();
        cross.worth(0, 0, 0);
        cross.worth(0, 1, 99);
        cross.worth(1, 1, 99);
        cross.worth(1, 0, 0);
        most(cross, 3, 3, 2, 99, 0, 1, NONE, NONE, NONE, NONE);
        cross.worth(1, 0, 1);
        most(cross, 3, 3, 2, 100, 1, 0, NONE, NONE, NONE, NONE);
    }

    // ---- promise 15

    /** "a HULL likes a NAME better by WORTH, of like ones the least": by one more, from 0 to 99. */
    private static void liking() {
        for (int n = 0; n < 5; n++) {
            for (int v : new int[] {11, 12, 98, 99}) {
                LentNames port = new LentNames();
                port.worth(2, n, v);
                stable(port, 4, 31, 1, v, NONE, NONE, n, NONE, NONE, NONE);
            }
            LentNames less = new LentNames();
            for (int other = 0; other < n; other++) {
                less.worth(2, other, 9);
            }
            stable(less, 4, 31, 1, 10, NONE, NONE, n, NONE, NONE, NONE);
        }
        stable(worths(0), 4, 31, 1, 0, NONE, NONE, 0, NONE, NONE, NONE);
        stable(worths(99), 4, 30, 1, 99, NONE, NONE, 1, NONE, NONE, NONE);
    }

    /** "a NAME likes a HULL better by RANK (a row of all six [..])": the one it likes best first, the last one last. */
    private static void ranks() {
        for (int n = 0; n < 5; n++) {
            for (int h = 0; h < 6; h++) {
                LentNames port = new LentNames();
                port.rank(n, rowFrom(h));
                int[] want = {1, 10, NONE, NONE, NONE, NONE, NONE, NONE};
                want[h + 2] = n;
                stable(port, 63, 1 << n, want);
                port.rank(n, rowTo(h));
                int other = h == 5 ? 4 : 5;
                int[] last = {1, 10, NONE, NONE, NONE, NONE, NONE, NONE};
                last[other + 2] = n;
                stable(port, 1 << h | 1 << other, 1 << n, last);
            }
        }
        LentNames port = new LentNames();
        port.rank(0, 543210);
        stable(port, 63, 1, 1, 10, NONE, NONE, NONE, NONE, NONE, 0);
        stable(port, 31, 1, 1, 10, NONE, NONE, NONE, NONE, 0, NONE);
        stable(port, 3, 1, 1, 10, NONE, 0, NONE, NONE, NONE, NONE);
    }

    /** "anybody is liked better than nobody": a NAME of WORTH 0, the last HULL of a RANK. */
    private static void betterThanNobody() {
        stable(worths(0), 63, 31, 5, 0, 0, 1, 2, 3, 4, NONE);
        for (int n = 0; n < 5; n++) {
            stable(new LentNames(), 32, 1 << n, 1, 10, NONE, NONE, NONE, NONE, NONE, n);
            stable(worths(0), 32, 1 << n, 1, 0, NONE, NONE, NONE, NONE, NONE, n);
        }
    }

    /** "BEST for HULLS: found by HULLS asking in order of liking, NAMES holding whom they like best." */
    private static void bestForHulls() {
        // HULLS and NAMES like each other crosswise: HULLS get what they like
        LentNames port = new LentNames();
        port.worth(0, 0, 20);
        port.worth(1, 1, 20);
        port.rank(0, 102345);
        port.rank(1, 12345);
        stable(port, 3, 3, 2, 40, 0, 1, NONE, NONE, NONE, NONE);
        // three in a ring
        LentNames ring = new LentNames();
        for (int h = 0; h < 3; h++) {
            ring.worth(h, h, 30);
            ring.worth(h, (h + 1) % 3, 20);
            ring.rank(h, rowTo(h));
        }
        stable(ring, 7, 7, 3, 90, 0, 1, 2, NONE, NONE, NONE);
        // a HULL that a NAME sends away, when it held it, asks on
        LentNames sent = new LentNames();
        for (int n = 0; n < 5; n++) {
            sent.rank(n, 543210);
        }
        stable(sent, 63, 31, 5, 50, NONE, 4, 3, 2, 1, 0);
        // one that came later is not taken from a NAME that likes it less
        stable(new LentNames(), 63, 3, 2, 20, 0, 1, NONE, NONE, NONE, NONE);
    }

    /** An object in which each HULL likes the NAMES in this order, and each NAME has this RANK. */
    private static LentNames liked(int[][] likings, int... rows) {
        LentNames port = new LentNames();
        for (int h = 0; h < 6; h++) {
            for (int place = 0; place < 5; place++) {
                port.worth(h, likings[h][place], 90 - 10 * place);
            }
        }
        for (int n = 0; n < 5; n++) {
            port.rank(n, rows[n]);
        }
        return port;
    }

    /** "HULLS asking in order of liking, NAMES holding whom they like best": as long as it can be, each HULL asks each NAME. */
    private static void longestAsking() {
        LentNames port = liked(new int[][] {{3, 4, 2, 1, 0}, {4, 0, 2, 1, 3}, {2, 0, 3, 4, 1}, {0, 4, 3, 2, 1},
            {1, 4, 0, 3, 2}, {2, 0, 1, 3, 4}}, 35142, 345102, 450132, 154230, 521034);
        stable(port, 63, 31, 5, 250, 0, 3, NONE, 1, 2, 4);
        leave(port, 63, 31, 140235, NONE, NONE);
        // HULLS that ask by their numbers: by the last of all, A gets b, which E held
        port = liked(new int[][] {{3, 0, 4, 2, 1}, {3, 1, 0, 2, 4}, {4, 0, 3, 1, 2}, {4, 1, 3, 2, 0}, {3, 4, 0, 2, 1},
            {0, 1, 4, 2, 3}}, 302541, 42153, 230541, 513420, 124305);
        stable(port, 63, 31, 5, 250, 1, 4, 2, 0, NONE, 3);
        leave(port, 63, 31, 253104, NONE, NONE);
    }

    /** "STABLE: a GIVING by which no HULL and NAME (MAY) would both rather have one another": it need not be MOST. */
    private static void stableIsNotMost() {
        LentNames port = new LentNames();
        port.hull(1, 0, 1);
        stable(port, 3, 3, 1, 10, 0, NONE, NONE, NONE, NONE, NONE);
        most(port, 3, 3, 2, 20, 1, 0, NONE, NONE, NONE, NONE);
        // a NAME that likes best whom MAY not lets
        LentNames may = new LentNames();
        may.hull(0, 0, 30);
        stable(may, 3, 1, 1, 10, NONE, 0, NONE, NONE, NONE, NONE);
        stable(may, 3, 3, 2, 20, 1, 0, NONE, NONE, NONE, NONE);
        may.hull(1, 0, 30);
        stable(may, 3, 1, 0, 0, NONE, NONE, NONE, NONE, NONE, NONE);
    }

    // ---- promise 16

    /** "a number (six digits, that of HULL 0 the highest: NAME and 1, 0 none [..])": 0 is the GIVING of none. */
    private static void digits() {
        int place = 100000;
        for (int h = 0; h < 6; h++) {
            for (int n = 0; n < 5; n++) {
                LentNames port = new LentNames();
                leave(port, 1 << h, 1 << n, place * (n + 1), NONE, NONE);
                leave(port, 1 << h, 1 << n, 0, h, n);
                leave(port, 1 << h, 31, place * (n + 1), n == 0 ? NONE : h, n == 0 ? NONE : 0);
                port.worth(h, n, 11);
                leave(port, 1 << h, 31, place * (n + 1), NONE, NONE);
            }
            place /= 10;
        }
        leave(new LentNames(), 63, 31, 123450, NONE, NONE);
        leave(new LentNames(), 62, 31, 12345, NONE, NONE);
        leave(new LentNames(), 63, 31, 12345, 0, 0);
        leave(new LentNames(), 0, 0, 0, NONE, NONE);
        leave(new LentNames(), 63, 0, 0, NONE, NONE);
        leave(new LentNames(), 0, 31, 0, NONE, NONE);
    }

    /** "below 0 or with more figures: no GIVING" */
    private static void figures() {
        for (int giving : new int[] {LEAST, LEAST + 1, -123450, -100000, -2, -1, 1000000, 1000001, 1123450, 10000000,
            1000000000, GREATEST - 1, GREATEST}) {
            noGiving(new LentNames(), 63, 31, giving);
            noGiving(new LentNames(), 0, 0, giving);
        }
        noGiving(new LentNames(), 63, 31, 999999);
    }

    /** "NAME and 1": a digit above 5 tells no NAME, in each place. */
    private static void digitsOfNoName() {
        for (int place = 1; place <= 100000; place *= 10) {
            for (int digit = 6; digit <= 9; digit++) {
                noGiving(new LentNames(), 63, 31, place * digit);
            }
        }
    }

    /** "A GIVING: some HULLS get a NAME each (MAY), no two the same." */
    private static void sameName() {
        for (int a = 1; a <= 100000; a *= 10) {
            for (int b = a * 10; b <= 100000; b *= 10) {
                for (int digit = 1; digit <= 5; digit++) {
                    noGiving(new LentNames(), 63, 31, digit * (a + b));
                }
            }
        }
    }

    /** Promise 16: "STATE: the number is no GIVING of these.": of HULLS and NAMES told, and by MAY. */
    private static void noGivingOfThese() {
        int place = 100000;
        for (int h = 0; h < 6; h++) {
            for (int n = 0; n < 5; n++) {
                int giving = place * (n + 1);
                noGiving(new LentNames(), 63 - (1 << h), 31, giving);
                noGiving(new LentNames(), 0, 31, giving);
                noGiving(new LentNames(), 63, 31 - (1 << n), giving);
                noGiving(new LentNames(), 63, 0, giving);
                LentNames port = new LentNames();
                port.hull(h, 0, 31 - (1 << n));
                noGiving(port, 63, 31, giving);
                port.hull(h, 0, 1 << n);
                due("leave(" + giving + ") is no STATE", port.leave(63, 31, giving, 0) == STATE ? 1 : 0, 0);
            }
            place /= 10;
        }
        edges.refusedIn(Edges.GOOD, "leave(63, 31, -1, 0)", p -> p.leave(63, 31, -1, 0), STATE);
        edges.refusedIn(Edges.GOOD, "leave(63, 31, 110000, 1)", p -> p.leave(63, 31, 110000, 1), STATE);
        edges.refusedIn(Edges.NEW, "leave(63, 31, 1000000, 0)", p -> p.leave(63, 31, 1000000, 0), STATE);
    }

    /** "LEAVE: in a GIVING [..] the first HULL, then NAME that would." */
    private static void firstWhoWould() {
        LentNames port = new LentNames();
        leave(port, 63, 31, 0, 0, 0);
        leave(port, 60, 28, 0, 2, 2);
        leave(port, 32, 16, 0, 5, 4);
        // HULL 0 is content, HULL 1 would, and so would HULL 2
        leave(port, 7, 7, 100000, 1, 1);
        // the first NAME, though a later one is liked better
        port.worth(1, 4, 99);
        leave(port, 63, 31, 100000, 1, 1);
        leave(port, 63, 31, 150000, 2, 1);
        // NAME a would, but HULL 0 is its best; b is held by one that it likes less
        LentNames held = new LentNames();
        held.rank(1, 543210);
        leave(held, 3, 3, 120000, NONE, NONE);
        leave(held, 7, 3, 120000, 2, 1);
        leave(held, 63, 3, 100002, NONE, NONE);
    }

    /** "would both rather have one another (than what they have [..])": one of them is not enough. */
    private static void bothWould() {
        // HULL 1 would rather have a, a would not; HULL 0 has what it likes best
        leave(new LentNames(), 3, 3, 120000, NONE, NONE);
        // a would rather have HULL 1, HULL 1 would not
        LentNames port = new LentNames();
        port.rank(0, 102345);
        port.worth(1, 1, 11);
        leave(port, 3, 3, 120000, NONE, NONE);
        // now it would, of like WORTH the least; at WORTH 11 again b
        port.worth(1, 0, 11);
        leave(port, 3, 3, 120000, 1, 0);
        port.worth(1, 1, 12);
        leave(port, 3, 3, 120000, NONE, NONE);
        // what they have already nobody leaves for
        leave(new LentNames(), 1, 1, 100000, NONE, NONE);
        // (MAY): both would, but MAY not
        LentNames may = new LentNames();
        may.hull(0, 0, 2);
        leave(may, 1, 3, 200000, NONE, NONE);
        may.hull(0, 0, 3);
        leave(may, 1, 3, 200000, 0, 0);
        may.hull(0, 0, 0);
        leave(may, 1, 31, 0, NONE, NONE);
    }

    /** "anybody is liked better than nobody": a HULL at home leaves for WORTH 0, a free NAME for the last of its RANK. */
    private static void leaveNobody() {
        leave(worths(0), 32, 16, 0, 5, 4);
        LentNames port = worths(0);
        port.rank(4, 12345);
        leave(port, 32, 16, 0, 5, 4);
        port.worth(5, 3, 99);
        leave(port, 32, 24, 5, 5, 3);
        leave(port, 32, 24, 4, NONE, NONE);
    }

    /** Promise 16: "NONE: it is STABLE.": that of stable always is. */
    private static void stableStays() {
        for (int by = 0; by < 60; by++) {
            for (int bits = 0; bits < 2; bits++) {
                LentNames port = Edges.set(new LentNames(), by);
                int hulls = bits == 0 ? 63 : by;
                int names = bits == 0 ? 31 : 31 - by % 32;
                int giving = 0;
                for (int h = 0; h < 6; h++) {
                    int name = port.stable(hulls, names, h);
                    giving = giving * 10 + (name == NONE ? 0 : name + 1);
                }
                leave(port, hulls, names, giving, NONE, NONE);
            }
        }
    }

    /** Promise 16: "OUTSIDE: bits, what; STATE": where both would. */
    private static void leaveRefused() {
        for (int giving : new int[] {-1, 0, 110000, 1000000}) {
            for (int bits : NOT_HULLS) {
                edges.refused("leave(" + bits + ", 31, " + giving + ", 0)", p -> p.leave(bits, 31, giving, 0), OUTSIDE);
            }
            for (int bits : NOT_NAMES) {
                edges.refused("leave(63, " + bits + ", " + giving + ", 1)", p -> p.leave(63, bits, giving, 1), OUTSIDE);
            }
            for (int what : new int[] {LEAST, LEAST + 1, -6, -2, -1, 2, 3, 256, 65536, GREATEST - 1, GREATEST}) {
                edges.refused("leave(63, 31, " + giving + ", " + what + ")", p -> p.leave(63, 31, giving, what),
                    OUTSIDE);
            }
        }
    }

    /** Promise 16: "OUTSIDE: bits, what; STATE: the number is no GIVING": the whole range of int in each place. */
    private static void leaveEverywhere() {
        for (int hulls : Edges.FEW) {
            for (int names : Edges.FEW) {
                for (int giving : new int[] {LEAST, -1, 0, 1000000, GREATEST}) {
                    for (int what : new int[] {LEAST, -1, 0, 1, 2, GREATEST}) {
                        boolean good = Edges.within(hulls, 0, 63) && Edges.within(names, 0, 31)
                            && Edges.within(what, 0, 1);
                        boolean none = hulls == 0 || names == 0;
                        int first = Integer.numberOfTrailingZeros(what == 0 ? hulls : names);
                        due("leave(" + hulls + ", " + names + ", " + giving + ", " + what + ")",
                            new LentNames().leave(hulls, names, giving, what),
                            !good ? OUTSIDE : giving != 0 ? STATE : none ? NONE : first);
                    }
                }
            }
        }
    }

    public static void main(String[] args) {
        noneTold();
        allTold();
        oneTold();
        mayBinds();
        logDoesNotMatter();
        otherPlaces();
        bitsRefused();
        manyBeforeWorth();
        greatestWorth();
        firstGiving();
        liking();
        ranks();
        betterThanNobody();
        bestForHulls();
        longestAsking();
        stableIsNotMost();
        digits();
        figures();
        digitsOfNoName();
        sameName();
        noGivingOfThese();
        firstWhoWould();
        bothWould();
        leaveNobody();
        stableStays();
        leaveRefused();
        leaveEverywhere();
        edges.end("GivingEdgesTest");
    }
}
