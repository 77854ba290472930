/** A port in which a hull may sail only under a name that is at home. */
public final class LentNames {
    public static final int NONE = -6, DROWNED = -7, UNKNOWN = -1, OUTSIDE = -2, STATE = -3, FULL = -4, NO = -5;
    public static final long LOST = -1000000000000000000L;

    private static final int HULLS = 6;
    private static final int NAMES = 5;
    private static final int ALL_HULLS = 63;
    private static final int ALL_NAMES = 31;
    private static final int IMAGES = 2;

    private static final int MOST_DAYS = 9;
    private static final int MOST_LUCK = 10;
    private static final int MOST_WORTH = 99;
    private static final int MOST_ROW = 543210;
    private static final int MOST_GIVING = 999999;
    private static final int MOST_HOME_DAYS = 7;
    private static final int MOST_CARGO = 999;
    private static final int MOST_SEED = 9999;
    private static final int MOST_WINTER = 60;

    private static final int SIGNS = 48;
    private static final int FIRST_SIGN = 33;
    private static final int LAST_SIGN = 126;

    private static final int GAPS = 4;
    private static final int WAYS = HULLS * HULLS * HULLS * HULLS;
    private static final int GAP = -1;

    private static final int SAIL = 0;
    private static final int DROWN = 1;
    private static final int NEXT_DAY = 2;

    private static final int FOR_PART = 0;
    private static final int FOR_NAME = 1;
    private static final int FOR_DAYS = 2;
    private static final int FOR_DROWNED = 3;

    private final Port port;
    private final Port firstImage;
    private final Port secondImage;
    private int keptImages;
    private final Pad pad;
    private final Sea sea;
    private final Tale tale;
    private final Giving givings;
    private final Fleet fleet;
    private final Season season;

    public LentNames() {
        port = new Port();
        firstImage = new Port();
        secondImage = new Port();
        pad = new Pad();
        sea = new Sea();
        tale = new Tale(port, pad, sea);
        givings = new Giving(port);
        fleet = new Fleet(port);
        season = new Season(port, sea);
    }

    // ---- 1 hulls, names

    public int hull(int hull, int what, int v) {
        if (!isHull(hull)) {
            return UNKNOWN;
        }
        if (what == 0 && isWithin(v, 0, ALL_NAMES)) {
            return swap(port.may, hull, v);
        }
        if (what == 1 && isWithin(v, 0, MOST_DAYS)) {
            return swap(port.voyage, hull, v);
        }
        return OUTSIDE;
    }

    public int luck(int name, int v) {
        if (!isName(name)) {
            return UNKNOWN;
        }
        return isWithin(v, 0, MOST_LUCK) ? swap(port.luck, name, v) : OUTSIDE;
    }

    public int worth(int hull, int name, int v) {
        if (!isHull(hull) || !isName(name)) {
            return UNKNOWN;
        }
        return isWithin(v, 0, MOST_WORTH) ? swap(port.worth, hull * NAMES + name, v) : OUTSIDE;
    }

    public int rank(int name, int row) {
        if (!isName(name)) {
            return UNKNOWN;
        }
        return holdsEachHullOnce(row) ? swap(port.rank, name, row) : OUTSIDE;
    }

    public int say(int sign) {
        if (!isWithin(sign, FIRST_SIGN, LAST_SIGN)) {
            return OUTSIDE;
        }
        return pad.add(sign);
    }

    public int wipe() {
        int were = pad.count;
        pad.count = 0;
        return were;
    }

    public int fault() {
        return pad.read();
    }

    public int judge(int what) {
        if (!isWithin(what, 0, 1)) {
            return OUTSIDE;
        }
        if (pad.read() != NONE) {
            return NO;
        }
        if (pad.gaps > 0) {
            return STATE;
        }
        int part = tale.tell();
        return part == NONE || what == 0 ? part : tale.why;
    }

    // ---- 2 logs

    public int log(int what) {
        if (!isAboutLog(what)) {
            return OUTSIDE;
        }
        if (pad.read() != NONE) {
            return NO;
        }
        if (pad.gaps > 0 || tale.tell() != NONE) {
            return STATE;
        }
        int one = what % 10;
        switch (what / 10) {
            case 1: return at(sea.nameOf, one);
            case 2: return at(sea.hullOf, one);
            case 3: return sea.dayAtHome(one);
            case 4: return at(sea.homes, one);
            default: return pad.lastDay;
        }
    }

    public int who(int name, int day) {
        int refusal = refusalOf(name, day);
        if (refusal != 0) {
            return refusal;
        }
        if (pad.gaps > 0) {
            return STATE;
        }
        tale.ask(name, day);
        return tale.tell() == NONE ? tale.seen : STATE;
    }

    public int filled(int i) {
        if (pad.read() != NONE) {
            return NO;
        }
        tale.tryAll();
        if (i == -1) {
            return tale.ways;
        }
        return isWithin(i, 0, pad.gaps - 1) ? at(tale.first, i) : NONE;
    }

    public int could(int name, int day) {
        int refusal = refusalOf(name, day);
        if (refusal != 0) {
            return refusal;
        }
        tale.ask(name, day);
        tale.tryAll();
        return tale.ways > 0 ? tale.bearers : STATE;
    }

    // ---- 3 giving

    public int most(int hulls, int names, int i) {
        if (!areBits(hulls, names)) {
            return OUTSIDE;
        }
        givings.open(hulls, names);
        givings.findMost(names);
        return givings.detail(i);
    }

    public int stable(int hulls, int names, int i) {
        if (!areBits(hulls, names)) {
            return OUTSIDE;
        }
        givings.open(hulls, names);
        givings.findStable();
        return givings.detail(i);
    }

    public int leave(int hulls, int names, int giving, int what) {
        if (!areBits(hulls, names) || !isWithin(what, 0, 1)) {
            return OUTSIDE;
        }
        givings.open(hulls, names);
        if (!givings.takes(giving)) {
            return STATE;
        }
        int pair = givings.firstPair();
        if (pair == NONE) {
            return NONE;
        }
        return what == 0 ? pair / NAMES : pair % NAMES;
    }

    // ---- 4 voyages, storms

    public int voyages(int i) {
        if (!isWithin(i, -1, HULLS - 1)) {
            return OUTSIDE;
        }
        int days = fleet.leastDays(ALL_NAMES);
        return i == -1 ? days : at(fleet.nameOf, i);
    }

    public int letGo(int what) {
        if (!isWithin(what, 0, 1)) {
            return OUTSIDE;
        }
        int bestName = NONE;
        int bestDays = NONE;
        for (int name = 0; name < NAMES; name++) {
            int days = fleet.leastDays(ALL_NAMES & ~(1 << name));
            if (days != NONE && (bestName == NONE || days < bestDays)) {
                bestName = name;
                bestDays = days;
            }
        }
        return what == 0 ? bestName : bestDays;
    }

    public long home(int name, int days, int part) {
        if (!isName(name)) {
            return LOST + UNKNOWN;
        }
        if (!isWithin(days, 1, MOST_HOME_DAYS) || !isWithin(part, 0, 1)) {
            return LOST + OUTSIDE;
        }
        return chanceHome(name, days, part);
    }

    public int asks(int name, int days, int v) {
        if (!isName(name)) {
            return UNKNOWN;
        }
        if (!isWithin(days, 1, MOST_HOME_DAYS) || !isWithin(v, 0, MOST_CARGO)) {
            return OUTSIDE;
        }
        long all = chanceHome(name, days, 1);
        long lost = all - chanceHome(name, days, 0);
        return (int) cutUp(v * lost, all);
    }

    public int winter(int seed, int days, int what) {
        if (!isWithin(seed, 0, MOST_SEED) || !isWithin(days, 1, MOST_WINTER) || !isWithin(what, 0, 2)) {
            return OUTSIDE;
        }
        season.pass(seed, days);
        switch (what) {
            case 0: return sea.drownedHulls();
            case 1: return sea.drownedNames();
            default: return sea.allHomes();
        }
    }

    public int image(int n) {
        if (!isWithin(n, 0, IMAGES - 1)) {
            return OUTSIDE;
        }
        imageOf(n).copy(port);
        keptImages |= 1 << n;
        return 1;
    }

    public int restore(int n) {
        if (!isWithin(n, 0, IMAGES - 1)) {
            return OUTSIDE;
        }
        if (!hasBit(keptImages, n)) {
            return STATE;
        }
        port.copy(imageOf(n));
        return 1;
    }

    public int told(int what) {
        if (what == 0) {
            return pad.count;
        }
        if (isWithin(what, 10, 9 + HULLS)) {
            return at(port.may, what - 10);
        }
        if (isWithin(what, 20, 19 + HULLS)) {
            return at(port.voyage, what - 20);
        }
        if (isWithin(what, 30, 29 + NAMES)) {
            return at(port.luck, what - 30);
        }
        if (isWithin(what, 40, 39 + NAMES)) {
            return at(port.rank, what - 40);
        }
        return isWithin(what, 100, 99 + HULLS * NAMES) ? at(port.worth, what - 100) : OUTSIDE;
    }

    // ---- what the calls above are made of

    private static boolean isWithin(int v, int least, int greatest) {
        return v >= least && v <= greatest;
    }

    private static boolean isHull(int hull) {
        return hull >= 0 && hull < HULLS;
    }

    private static boolean isName(int name) {
        return name >= 0 && name < NAMES;
    }

    private static boolean areBits(int hulls, int names) {
        return isWithin(hulls, 0, ALL_HULLS) && isWithin(names, 0, ALL_NAMES);
    }

    private static boolean hasBit(int bits, int i) {
        return i >= 0 && (bits >> i & 1) == 1;
    }

    private static boolean holdsEachHullOnce(int row) {
        if (!isWithin(row, 0, MOST_ROW)) {
            return false;
        }
        int met = 0;
        int rest = row;
        for (int i = 0; i < HULLS; i++) {
            int hull = rest % 10;
            if (!isHull(hull)) {
                return false;
            }
            met |= 1 << hull;
            rest /= 10;
        }
        return met == ALL_HULLS;
    }

    private static boolean isAboutLog(int what) {
        return what == 0 || isWithin(what, 10, 9 + HULLS) || isWithin(what, 20, 19 + NAMES)
            || isWithin(what, 30, 29 + NAMES) || isWithin(what, 40, 39 + NAMES);
    }

    /** What refuses who and could alike, 0: nothing. Which day is behind the last one shows when there is no fault. */
    private int refusalOf(int name, int day) {
        if (!isName(name) || day < 0) {
            return UNKNOWN;
        }
        if (pad.read() != NONE) {
            return NO;
        }
        return day > pad.lastDay ? UNKNOWN : 0;
    }

    private Port imageOf(int n) {
        return n == 0 ? firstImage : secondImage;
    }

    // No caller reads or writes outside of a row; the index is tested all the same, so that nothing is ever thrown.
    private static int at(int[] row, int i) {
        return i >= 0 && i < row.length ? row[i] : 0;
    }

    private static void put(int[] row, int i, int v) {
        if (i >= 0 && i < row.length) {
            row[i] = v;
        }
    }

    private static int swap(int[] row, int i, int v) {
        int was = at(row, i);
        put(row, i, v);
        return was;
    }

    private static void fill(int[] row, int v) {
        for (int i = 0; i < row.length; i++) {
            row[i] = v;
        }
    }

    private static void copyRow(int[] from, int[] to) {
        for (int i = 0; i < from.length && i < to.length; i++) {
            to[i] = from[i];
        }
    }

    // What is in lowest terms for one day is so for all days: powers bring no common divisor.
    private long chanceHome(int name, int days, int part) {
        int safe = 90 + at(port.luck, name);
        int divisor = commonDivisor(safe, 100);
        int one = part == 0 ? safe : 100;
        return divisor > 0 ? power(one / divisor, days) : 1;
    }

    private static int commonDivisor(int a, int b) {
        for (int divisor = b; divisor > 1; divisor--) {
            if (a % divisor == 0 && b % divisor == 0) {
                return divisor;
            }
        }
        return 1;
    }

    private static long power(long base, int times) {
        long result = 1;
        for (int i = 0; i < times; i++) {
            result *= base;
        }
        return result;
    }

    private static long cutUp(long upper, long lower) {
        return lower > 0 ? (upper + lower - 1) / lower : 0;
    }

    /** All that an image keeps. */
    private static final class Port {
        final int[] may = new int[HULLS];
        final int[] voyage = new int[HULLS];
        final int[] luck = new int[NAMES];
        final int[] rank = new int[NAMES];
        final int[] worth = new int[HULLS * NAMES];

        Port() {
            fill(may, ALL_NAMES);
            fill(luck, 5);
            fill(rank, 12345);
            fill(worth, 10);
        }

        void copy(Port other) {
            copyRow(other.may, may);
            copyRow(other.voyage, voyage);
            copyRow(other.luck, luck);
            copyRow(other.rank, rank);
            copyRow(other.worth, worth);
        }

        boolean lets(int hull, int name) {
            return isHull(hull) && hasBit(may[hull], name);
        }

        int worthOf(int hull, int name) {
            return isHull(hull) && isName(name) ? worth[hull * NAMES + name] : 0;
        }

        /** On which place of its rank a name has a hull, the best one being 0. */
        int placeOf(int name, int hull) {
            int rest = at(rank, name);
            for (int place = HULLS - 1; place > 0; place--) {
                if (rest % 10 == hull) {
                    return place;
                }
                rest /= 10;
            }
            return 0;
        }
    }

    /** The signs, and the parts that they make. */
    private static final class Pad {
        private final int[] signs = new int[SIGNS];
        private int awaited;
        int count;
        final int[] kinds = new int[SIGNS];
        final int[] hulls = new int[SIGNS];
        final int[] names = new int[SIGNS];
        final int[] days = new int[SIGNS];
        int parts;
        int gaps;
        int lastDay;

        int add(int sign) {
            if (count < 0 || count >= SIGNS) {
                return FULL;
            }
            signs[count] = sign;
            count++;
            return count;
        }

        /** Reads the signs into parts: the fault, or NONE. */
        int read() {
            parts = 0;
            gaps = 0;
            lastDay = 0;
            awaited = FOR_PART;
            for (int i = 0; i < count && i < SIGNS; i++) {
                if (!takes(signs[i])) {
                    return i;
                }
            }
            return awaited == FOR_PART ? NONE : count;
        }

        private boolean takes(int sign) {
            switch (awaited) {
                case FOR_PART: return takesStart(sign);
                case FOR_DAYS: return takesDays(sign);
                default: return takesName(sign);
            }
        }

        private boolean takesStart(int sign) {
            if (sign == '.') {
                lastDay++;
                close(NEXT_DAY);
                return true;
            }
            if (sign == '!') {
                awaited = FOR_DROWNED;
                return true;
            }
            if (sign == '?' && gaps < GAPS) {
                gaps++;
                return startsSail(GAP);
            }
            return sign >= 'A' && sign <= 'F' && startsSail(sign - 'A');
        }

        private boolean startsSail(int hull) {
            put(hulls, parts, hull);
            awaited = FOR_NAME;
            return true;
        }

        private boolean takesName(int sign) {
            if (sign < 'a' || sign > 'e') {
                return false;
            }
            put(names, parts, sign - 'a');
            if (awaited == FOR_NAME) {
                awaited = FOR_DAYS;
            } else {
                close(DROWN);
            }
            return true;
        }

        private boolean takesDays(int sign) {
            if (sign < '1' || sign > '9') {
                return false;
            }
            put(days, parts, sign - '0');
            close(SAIL);
            return true;
        }

        private void close(int kind) {
            put(kinds, parts, kind);
            parts++;
            awaited = FOR_PART;
        }
    }

    /** Who is where as whom on one day. */
    private static final class Sea {
        final int[] nameOf = new int[HULLS];
        final int[] hullOf = new int[NAMES];
        final int[] homes = new int[NAMES];
        /** Of a name at sea the day on which it is due, of a drowned one that on which it drowned. */
        private final int[] turn = new int[NAMES];
        private final int[] taker = new int[NAMES];
        int day;

        void calm() {
            fill(nameOf, NONE);
            fill(hullOf, NONE);
            fill(homes, 0);
            fill(turn, 0);
            fill(taker, NONE);
            day = 0;
        }

        void dawn(int today) {
            day = today;
            for (int name = 0; name < NAMES; name++) {
                if (isHull(hullOf[name]) && turn[name] <= today) {
                    put(nameOf, hullOf[name], NONE);
                    hullOf[name] = NONE;
                    homes[name]++;
                }
            }
        }

        void sail(int hull, int name, int days) {
            put(nameOf, hull, name);
            put(hullOf, name, hull);
            put(taker, name, hull);
            put(turn, name, day + days);
        }

        void drown(int name) {
            put(nameOf, at(hullOf, name), DROWNED);
            put(hullOf, name, DROWNED);
            put(turn, name, day);
        }

        /** Why a hull can not sail under a name now; 0: it can. */
        int whyNotSail(int hull, int name, boolean may) {
            if (at(nameOf, hull) == DROWNED) {
                return 1;
            }
            if (at(nameOf, hull) != NONE) {
                return 2;
            }
            if (at(hullOf, name) == DROWNED) {
                return 3;
            }
            if (at(hullOf, name) != NONE) {
                return 4;
            }
            return may ? 0 : 5;
        }

        /** Why a name can not drown now; 0: it can. */
        int whyNotDrown(int name) {
            if (at(hullOf, name) == DROWNED) {
                return 3;
            }
            return at(hullOf, name) == NONE ? 4 : 0;
        }

        /** Who bears a name on this day; if it drowned on this day, who bore it. */
        int bearer(int name) {
            int hull = at(hullOf, name);
            if (hull == DROWNED) {
                return at(turn, name) == day ? at(taker, name) : NONE;
            }
            return hull;
        }

        int dayAtHome(int name) {
            int hull = at(hullOf, name);
            if (hull == DROWNED) {
                return DROWNED;
            }
            return hull == NONE ? day : at(turn, name);
        }

        int drownedHulls() {
            int drowned = 0;
            for (int hull = 0; hull < HULLS; hull++) {
                if (nameOf[hull] == DROWNED) {
                    drowned++;
                }
            }
            return drowned;
        }

        int drownedNames() {
            int bits = 0;
            for (int name = 0; name < NAMES; name++) {
                if (hullOf[name] == DROWNED) {
                    bits |= 1 << name;
                }
            }
            return bits;
        }

        int allHomes() {
            int sum = 0;
            for (int name = 0; name < NAMES; name++) {
                sum += homes[name];
            }
            return sum;
        }
    }

    /** Tells the parts of the pad day by day, with hulls written for the gaps. */
    private static final class Tale {
        private final Port port;
        private final Pad pad;
        private final Sea sea;
        private final int[] written = new int[GAPS];
        private int gapsMet;
        private int askedName;
        private int askedDay;
        int why;
        int seen;
        final int[] first = new int[GAPS];
        int ways;
        int bearers;

        Tale(Port port, Pad pad, Sea sea) {
            this.port = port;
            this.pad = pad;
            this.sea = sea;
        }

        /** From now on what is told is watched for who bears this name on this day. */
        void ask(int name, int day) {
            askedName = name;
            askedDay = day;
        }

        /** The first part that can not be, or NONE. */
        int tell() {
            sea.calm();
            gapsMet = 0;
            seen = NONE;
            why = 0;
            for (int part = 0; part < pad.parts && part < SIGNS; part++) {
                why = tellPart(part);
                if (why != 0) {
                    return part;
                }
            }
            look();
            return NONE;
        }

        /** Why a part can not be; 0: it could, and has been. */
        private int tellPart(int part) {
            switch (at(pad.kinds, part)) {
                case NEXT_DAY:
                    look();
                    sea.dawn(sea.day + 1);
                    return 0;
                case DROWN:
                    return tellDrown(at(pad.names, part));
                default:
                    return tellSail(hullAt(part), at(pad.names, part), at(pad.days, part));
            }
        }

        private int tellDrown(int name) {
            int whyNot = sea.whyNotDrown(name);
            if (whyNot == 0) {
                sea.drown(name);
            }
            return whyNot;
        }

        private int tellSail(int hull, int name, int days) {
            int whyNot = sea.whyNotSail(hull, name, port.lets(hull, name));
            if (whyNot == 0) {
                sea.sail(hull, name, days);
            }
            return whyNot;
        }

        private int hullAt(int part) {
            int hull = at(pad.hulls, part);
            if (hull != GAP) {
                return hull;
            }
            gapsMet++;
            return at(written, gapsMet - 1);
        }

        // A day is looked at when all its parts have been told: who took a name anew bears it then.
        private void look() {
            if (sea.day == askedDay) {
                seen = sea.bearer(askedName);
            }
        }

        void tryAll() {
            ways = 0;
            bearers = 0;
            fill(written, 0);
            fill(first, NONE);
            boolean more = true;
            for (int turn = 0; more && turn < WAYS; turn++) {
                if (tell() == NONE) {
                    keepWay();
                }
                more = turnGaps(gapsMet);
            }
        }

        private void keepWay() {
            if (ways == 0) {
                copyRow(written, first);
            }
            ways++;
            if (isHull(seen)) {
                bearers |= 1 << seen;
            }
        }

        /** Goes on to the next way that differs in the gaps met: no later gap could have changed what was told. */
        private boolean turnGaps(int met) {
            for (int gap = GAPS - 1; gap >= 0; gap--) {
                if (gap < met && written[gap] < HULLS - 1) {
                    written[gap]++;
                    return true;
                }
                written[gap] = 0;
            }
            return false;
        }
    }

    /** Names given to hulls for today. */
    private static final class Giving {
        /** One hull more that sails weighs more than the worth of all. */
        private static final int SAILS = 1000;
        private static final int SETS = 32;

        private final Port port;
        /** The names that a hull may get, as bits. */
        private final int[] choice = new int[HULLS];
        private final int[] left = new int[HULLS];
        private final int[] nameOf = new int[HULLS];
        private final int[] hullOf = new int[NAMES];
        /** What the hulls from one on gain at best from a set of names that are free. */
        private final int[] best = new int[(HULLS + 1) * SETS];

        Giving(Port port) {
            this.port = port;
        }

        void open(int hulls, int names) {
            for (int hull = 0; hull < HULLS; hull++) {
                choice[hull] = hasBit(hulls, hull) ? at(port.may, hull) & names : 0;
            }
            fill(nameOf, NONE);
            fill(hullOf, NONE);
        }

        private void give(int hull, int name) {
            put(nameOf, hull, name);
            put(hullOf, name, hull);
        }

        int detail(int i) {
            int sail = 0;
            int sum = 0;
            for (int hull = 0; hull < HULLS; hull++) {
                if (nameOf[hull] != NONE) {
                    sail++;
                    sum += port.worthOf(hull, nameOf[hull]);
                }
            }
            if (i == -2) {
                return sail;
            }
            if (i == -1) {
                return sum;
            }
            return isHull(i) ? nameOf[i] : NONE;
        }

        void findMost(int names) {
            for (int hull = HULLS - 1; hull >= 0; hull--) {
                for (int free = 0; free < SETS; free++) {
                    put(best, hull * SETS + free, bestGain(hull, free));
                }
            }
            int free = names;
            for (int hull = 0; hull < HULLS; hull++) {
                int name = firstOfBest(hull, free);
                if (name != NONE) {
                    give(hull, name);
                    free &= ~(1 << name);
                }
            }
        }

        private int bestGain(int hull, int free) {
            int most = at(best, (hull + 1) * SETS + free);
            for (int name = 0; name < NAMES; name++) {
                if (hasBit(at(choice, hull) & free, name)) {
                    most = Math.max(most, gain(hull, name, free));
                }
            }
            return most;
        }

        private int gain(int hull, int name, int free) {
            return SAILS + port.worthOf(hull, name) + at(best, (hull + 1) * SETS + (free & ~(1 << name)));
        }

        private int firstOfBest(int hull, int free) {
            for (int name = 0; name < NAMES; name++) {
                boolean open = hasBit(at(choice, hull) & free, name);
                if (open && gain(hull, name, free) == at(best, hull * SETS + free)) {
                    return name;
                }
            }
            return NONE;
        }

        void findStable() {
            copyRow(choice, left);
            // Each hull asks each name once at most.
            for (int turn = 0; turn < HULLS * NAMES; turn++) {
                int hull = firstAsking();
                if (hull == NONE) {
                    return;
                }
                askFor(hull, favourite(hull));
            }
        }

        private int firstAsking() {
            for (int hull = 0; hull < HULLS; hull++) {
                if (nameOf[hull] == NONE && left[hull] != 0) {
                    return hull;
                }
            }
            return NONE;
        }

        private int favourite(int hull) {
            int liked = NONE;
            for (int name = 0; name < NAMES; name++) {
                if (hasBit(at(left, hull), name) && hullPrefers(hull, name, liked)) {
                    liked = name;
                }
            }
            return liked;
        }

        private void askFor(int hull, int name) {
            put(left, hull, at(left, hull) & ~(1 << name));
            int held = at(hullOf, name);
            if (!namePrefers(name, hull, held)) {
                return;
            }
            if (held != NONE) {
                put(nameOf, held, NONE);
            }
            give(hull, name);
        }

        private boolean hullPrefers(int hull, int name, int other) {
            if (other == NONE) {
                return true;
            }
            int more = port.worthOf(hull, name) - port.worthOf(hull, other);
            return more > 0 || more == 0 && name < other;
        }

        private boolean namePrefers(int name, int hull, int other) {
            return other == NONE || port.placeOf(name, hull) < port.placeOf(name, other);
        }

        /** Takes the giving that a number tells; false: it tells none. */
        boolean takes(int number) {
            if (!isWithin(number, 0, MOST_GIVING)) {
                return false;
            }
            int rest = number;
            for (int hull = HULLS - 1; hull >= 0; hull--) {
                int name = rest % 10 - 1;
                rest /= 10;
                if (name < 0) {
                    continue;
                }
                if (!isName(name) || !hasBit(choice[hull], name) || hullOf[name] != NONE) {
                    return false;
                }
                give(hull, name);
            }
            return true;
        }

        /** The first hull and name that would leave, as hull * NAMES + name, or NONE. */
        int firstPair() {
            for (int hull = 0; hull < HULLS; hull++) {
                for (int name = 0; name < NAMES; name++) {
                    if (hasBit(choice[hull], name) && hullPrefers(hull, name, nameOf[hull])
                        && namePrefers(name, hull, hullOf[name])) {
                        return hull * NAMES + name;
                    }
                }
            }
            return NONE;
        }
    }

    /** The voyages that wait. */
    private static final class Fleet {
        private final Port port;
        private final int[] busy = new int[NAMES];
        final int[] nameOf = new int[HULLS];

        Fleet(Port port) {
            this.port = port;
        }

        /** The least days till all are at home by these names, or NONE; nameOf tells the first way. */
        int leastDays(int names) {
            fill(nameOf, NONE);
            fill(busy, 0);
            int longest = 0;
            int all = 0;
            for (int hull = 0; hull < HULLS; hull++) {
                int days = at(port.voyage, hull);
                if (days > 0 && (at(port.may, hull) & names) == 0) {
                    return NONE;
                }
                longest = Math.max(longest, days);
                all += days;
            }
            // No way takes less than the longest voyage, and none needs more than all of them one behind another.
            for (int limit = longest; limit <= all; limit++) {
                if (fits(this, names, limit, 0)) {
                    return limit;
                }
            }
            return NONE;
        }

        /** Whether the hulls from one on get names so that no name is busy for longer than the limit. */
        private static boolean fits(Fleet fleet, int names, int limit, int hull) {
            if (!isHull(hull)) {
                return true;
            }
            int days = at(fleet.port.voyage, hull);
            if (days == 0) {
                return fits(fleet, names, limit, hull + 1);
            }
            int open = at(fleet.port.may, hull) & names;
            for (int name = 0; name < NAMES; name++) {
                int before = at(fleet.busy, name);
                if (hasBit(open, name) && before + days <= limit) {
                    put(fleet.busy, name, before + days);
                    put(fleet.nameOf, hull, name);
                    if (fits(fleet, names, limit, hull + 1)) {
                        return true;
                    }
                    put(fleet.busy, name, before);
                }
            }
            put(fleet.nameOf, hull, NONE);
            return false;
        }
    }

    /** A winter by draws. */
    private static final class Season {
        private final Port port;
        private final Sea sea;

        Season(Port port, Sea sea) {
            this.port = port;
            this.sea = sea;
        }

        void pass(int seed, int days) {
            sea.calm();
            int x = seed;
            for (int day = 0; day < days; day++) {
                sea.dawn(day);
                setOut();
                x = storm(x);
            }
        }

        private void setOut() {
            for (int hull = 0; hull < HULLS; hull++) {
                int days = at(port.voyage, hull);
                int name = days > 0 && at(sea.nameOf, hull) == NONE ? leastName(hull) : NONE;
                if (name != NONE) {
                    sea.sail(hull, name, days);
                }
            }
        }

        private int leastName(int hull) {
            for (int name = 0; name < NAMES; name++) {
                if (at(sea.hullOf, name) == NONE && port.lets(hull, name)) {
                    return name;
                }
            }
            return NONE;
        }

        /** Draws for each hull at sea: the last draw. */
        private int storm(int before) {
            int x = before;
            for (int hull = 0; hull < HULLS; hull++) {
                int name = at(sea.nameOf, hull);
                if (isName(name)) {
                    x = (75 * x + 74) % 65537;
                    if (x % 100 < MOST_LUCK - at(port.luck, name)) {
                        sea.drown(name);
                    }
                }
            }
            return x;
        }
    }
}
