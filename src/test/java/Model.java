import java.math.BigInteger;
import java.util.ArrayList;
import java.util.Arrays;
import java.util.HashSet;
import java.util.List;
import java.util.Set;
import java.util.regex.Matcher;
import java.util.regex.Pattern;

/**
 * Answers the calls of LentNames by the definitions of the document, trying out everything.
 * It shares no code and no way of working with the program.
 */
final class Model {
    static final int NONE = -6, DROWNED = -7, UNKNOWN = -1, OUTSIDE = -2, STATE = -3, FULL = -4, NO = -5;

    /** All but the pad. */
    static final class Kept {
        int[] may = {31, 31, 31, 31, 31, 31};
        int[] voyage = new int[6];
        int[] luck = {5, 5, 5, 5, 5};
        int[][] worth = new int[6][5];
        String[] rank = {"012345", "012345", "012345", "012345", "012345"};

        Kept() {
            for (int[] row : worth) {
                Arrays.fill(row, 10);
            }
        }

        Kept copy() {
            Kept copy = new Kept();
            copy.may = may.clone();
            copy.voyage = voyage.clone();
            copy.luck = luck.clone();
            copy.rank = rank.clone();
            for (int h = 0; h < 6; h++) {
                copy.worth[h] = worth[h].clone();
            }
            return copy;
        }
    }

    /** A hull under a name from its first day to the last on which it is borne. */
    static final class Trip {
        int hull, name, from, home;
        int drowned = -1;

        boolean coversAtSea(int day) {
            return drowned < 0 && from <= day && day < home;
        }
    }

    Kept kept = new Kept();
    final Kept[] images = new Kept[2];
    String pad = "";

    // ---- 1

    long hull(int hull, int what, int v) {
        if (hull < 0 || hull > 5) return UNKNOWN;
        if (what < 0 || what > 1 || v < 0 || v > (what == 0 ? 31 : 9)) return OUTSIDE;
        int[] row = what == 0 ? kept.may : kept.voyage;
        int was = row[hull];
        row[hull] = v;
        return was;
    }

    long luck(int name, int v) {
        if (name < 0 || name > 4) return UNKNOWN;
        if (v < 0 || v > 10) return OUTSIDE;
        int was = kept.luck[name];
        kept.luck[name] = v;
        return was;
    }

    long worth(int hull, int name, int v) {
        if (hull < 0 || hull > 5 || name < 0 || name > 4) return UNKNOWN;
        if (v < 0 || v > 99) return OUTSIDE;
        int was = kept.worth[hull][name];
        kept.worth[hull][name] = v;
        return was;
    }

    long rank(int name, int row) {
        if (name < 0 || name > 4) return UNKNOWN;
        if (row < 0 || row > 999999) return OUTSIDE;
        String text = String.format("%06d", row);
        char[] sorted = text.toCharArray();
        Arrays.sort(sorted);
        if (!new String(sorted).equals("012345")) return OUTSIDE;
        int was = Integer.parseInt(kept.rank[name]);
        kept.rank[name] = text;
        return was;
    }

    long say(int sign) {
        if (sign < 33 || sign > 126) return OUTSIDE;
        if (pad.length() == 48) return FULL;
        pad += (char) sign;
        return pad.length();
    }

    long wipe() {
        int were = pad.length();
        pad = "";
        return were;
    }

    /** Whether some signs more make it a log, so far as ? are left. */
    private static boolean canGoOn(String start) {
        if (start.chars().filter(c -> c == '?').count() > 4) return false;
        for (String more : new String[] {"", "1", "a", "a1"}) {
            if (isLog(start + more)) return true;
        }
        return false;
    }

    private static boolean isLog(String text) {
        return text.matches("([A-F?][a-e][1-9]|\\.|![a-e])*")
            && text.chars().filter(c -> c == '?').count() <= 4;
    }

    long fault() {
        if (isLog(pad)) return NONE;
        for (int i = 0; i < pad.length(); i++) {
            if (!canGoOn(pad.substring(0, i + 1))) return i;
        }
        return pad.length();
    }

    // ---- telling

    static List<String> partsOf(String log) {
        List<String> parts = new ArrayList<>();
        Matcher m = Pattern.compile("[A-F?][a-e][1-9]|\\.|![a-e]").matcher(log);
        while (m.find()) parts.add(m.group());
        return parts;
    }

    /** {first bad part or NONE, why}; the trips are put into the list. */
    private int[] tell(String log, List<Trip> trips) {
        int day = 0;
        List<String> parts = partsOf(log);
        for (int p = 0; p < parts.size(); p++) {
            String part = parts.get(p);
            if (part.equals(".")) {
                day++;
            } else if (part.startsWith("!")) {
                int name = part.charAt(1) - 'a';
                Trip on = null;
                boolean drowned = false;
                for (Trip t : trips) {
                    if (t.name == name && t.drowned >= 0) drowned = true;
                    if (t.name == name && t.coversAtSea(day)) on = t;
                }
                if (drowned) return new int[] {p, 3};
                if (on == null) return new int[] {p, 4};
                on.drowned = day;
            } else {
                Trip t = new Trip();
                t.hull = part.charAt(0) - 'A';
                t.name = part.charAt(1) - 'a';
                t.from = day;
                t.home = day + part.charAt(2) - '0';
                int why = whyNot(t, trips, day);
                if (why != 0) return new int[] {p, why};
                trips.add(t);
            }
        }
        return new int[] {NONE, NONE};
    }

    private int whyNot(Trip next, List<Trip> trips, int day) {
        int why = (kept.may[next.hull] >> next.name & 1) == 1 ? 9 : 5;
        for (Trip t : trips) {
            if (t.name == next.name && t.coversAtSea(day)) why = Math.min(why, 4);
            if (t.name == next.name && t.drowned >= 0) why = Math.min(why, 3);
            if (t.hull == next.hull && t.coversAtSea(day)) why = Math.min(why, 2);
            if (t.hull == next.hull && t.drowned >= 0) why = Math.min(why, 1);
        }
        return why == 9 ? 0 : why;
    }

    private int lastDay() {
        return (int) pad.chars().filter(c -> c == '.').count();
    }

    private int gaps() {
        return (int) pad.chars().filter(c -> c == '?').count();
    }

    long judge(int what) {
        if (what < 0 || what > 1) return OUTSIDE;
        if (fault() != NONE) return NO;
        if (gaps() > 0) return STATE;
        return tell(pad, new ArrayList<>())[what];
    }

    // ---- 2

    long log(int what) {
        boolean known = what == 0 || what >= 10 && what <= 15;
        for (int ten = 20; ten <= 40; ten += 10) known |= what >= ten && what <= ten + 4;
        if (!known) return OUTSIDE;
        if (fault() != NONE) return NO;
        List<Trip> trips = new ArrayList<>();
        if (gaps() > 0 || tell(pad, trips)[0] != NONE) return STATE;
        int last = lastDay();
        if (what == 0) return last;
        int one = what % 10;
        long answer = what / 10 == 3 ? last : what / 10 == 4 ? 0 : NONE;
        for (Trip t : trips) {
            boolean mine = what / 10 == 1 ? t.hull == one : t.name == one;
            if (!mine) continue;
            if (what / 10 == 4) {
                if (t.drowned < 0 && t.home <= last) answer++;
            } else if (t.drowned >= 0) {
                return DROWNED;
            } else if (t.coversAtSea(last)) {
                answer = what / 10 == 1 ? t.name : what / 10 == 2 ? t.hull : t.home;
            }
        }
        return answer;
    }

    private static int bearer(List<Trip> trips, int name, int day) {
        for (Trip t : trips) {
            int until = t.drowned >= 0 ? t.drowned : t.home - 1;
            if (t.name == name && t.from <= day && day <= until) return t.hull;
        }
        return NONE;
    }

    long who(int name, int day) {
        if (name < 0 || name > 4 || day < 0) return UNKNOWN;
        if (fault() != NONE) return NO;
        if (day > lastDay()) return UNKNOWN;
        List<Trip> trips = new ArrayList<>();
        if (gaps() > 0 || tell(pad, trips)[0] != NONE) return STATE;
        return bearer(trips, name, day);
    }

    /** All good ways to fill, first ones first, as letters. */
    private List<String> goodWays() {
        List<String> good = new ArrayList<>();
        int gaps = gaps();
        int all = (int) Math.pow(6, gaps);
        for (int w = 0; w < all; w++) {
            char[] letters = new char[gaps];
            int rest = w;
            for (int g = gaps - 1; g >= 0; g--) {
                letters[g] = (char) ('A' + rest % 6);
                rest /= 6;
            }
            String way = new String(letters);
            if (tell(filledWith(way), new ArrayList<>())[0] == NONE) good.add(way);
        }
        return good;
    }

    private String filledWith(String way) {
        String text = pad;
        for (char letter : way.toCharArray()) {
            text = text.replaceFirst("\\?", String.valueOf(letter));
        }
        return text;
    }

    long filled(int i) {
        if (fault() != NONE) return NO;
        List<String> good = goodWays();
        if (i == -1) return good.size();
        if (i < 0 || i >= gaps() || good.isEmpty()) return NONE;
        return good.get(0).charAt(i) - 'A';
    }

    long could(int name, int day) {
        if (name < 0 || name > 4 || day < 0) return UNKNOWN;
        if (fault() != NONE) return NO;
        if (day > lastDay()) return UNKNOWN;
        List<String> good = goodWays();
        if (good.isEmpty()) return STATE;
        int bits = 0;
        for (String way : good) {
            List<Trip> trips = new ArrayList<>();
            tell(filledWith(way), trips);
            int hull = bearer(trips, name, day);
            if (hull != NONE) bits |= 1 << hull;
        }
        return bits;
    }

    // ---- 3

    /** All givings, the first ones (none behind all names) first. */
    private List<int[]> givings(int hulls, int names) {
        List<int[]> all = new ArrayList<>();
        give(0, hulls, names, new int[6], all);
        return all;
    }

    private void give(int hull, int hulls, int names, int[] now, List<int[]> all) {
        if (hull == 6) {
            all.add(now.clone());
            return;
        }
        for (int n = 0; n < 5; n++) {
            if ((hulls >> hull & 1) == 1 && (names & kept.may[hull] & 1 << n) != 0) {
                now[hull] = n;
                give(hull + 1, hulls, names & ~(1 << n), now, all);
            }
        }
        now[hull] = NONE;
        give(hull + 1, hulls, names, now, all);
    }

    private int[] countAndWorth(int[] giving) {
        int count = 0, sum = 0;
        for (int h = 0; h < 6; h++) {
            if (giving[h] != NONE) {
                count++;
                sum += kept.worth[h][giving[h]];
            }
        }
        return new int[] {count, sum};
    }

    private long detail(int[] giving, int i) {
        if (i == -2) return countAndWorth(giving)[0];
        if (i == -1) return countAndWorth(giving)[1];
        return i < -2 || i > 5 ? NONE : giving[i];
    }

    private static boolean badBits(int hulls, int names) {
        return hulls < 0 || hulls > 63 || names < 0 || names > 31;
    }

    long most(int hulls, int names, int i) {
        if (badBits(hulls, names)) return OUTSIDE;
        int[] best = null;
        for (int[] g : givings(hulls, names)) {
            if (best == null) {
                best = g;
                continue;
            }
            int[] a = countAndWorth(g), b = countAndWorth(best);
            if (a[0] > b[0] || a[0] == b[0] && a[1] > b[1]) best = g;
        }
        return detail(best, i);
    }

    /** How well a hull likes what it has: greater is better. */
    private int liking(int hull, int name) {
        return name == NONE ? -1 : kept.worth[hull][name] * 10 + 9 - name;
    }

    private int firstPair(int[] giving, int hulls, int names) {
        for (int h = 0; h < 6; h++) {
            for (int n = 0; n < 5; n++) {
                if ((hulls >> h & 1) == 0 || (names & kept.may[h] & 1 << n) == 0) continue;
                int holder = NONE;
                for (int k = 0; k < 6; k++) {
                    if (giving[k] == n) holder = k;
                }
                boolean hullWould = liking(h, n) > liking(h, giving[h]);
                boolean nameWould = holder == NONE
                    || kept.rank[n].indexOf('0' + h) < kept.rank[n].indexOf('0' + holder);
                if (hullWould && nameWould) return h * 5 + n;
            }
        }
        return NONE;
    }

    long stable(int hulls, int names, int i) {
        if (badBits(hulls, names)) return OUTSIDE;
        List<int[]> stable = new ArrayList<>();
        for (int[] g : givings(hulls, names)) {
            if (firstPair(g, hulls, names) == NONE) stable.add(g);
        }
        // the one that is best for hulls: each has the best of all that it has in any stable giving
        for (int[] g : stable) {
            boolean best = true;
            for (int[] other : stable) {
                for (int h = 0; h < 6; h++) best &= liking(h, g[h]) >= liking(h, other[h]);
            }
            if (best) return detail(g, i);
        }
        throw new IllegalStateException("no best stable giving");
    }

    long leave(int hulls, int names, int giving, int what) {
        if (badBits(hulls, names) || what < 0 || what > 1) return OUTSIDE;
        if (giving < 0 || giving > 999999) return STATE;
        String digits = String.format("%06d", giving);
        int[] told = new int[6];
        for (int h = 0; h < 6; h++) {
            told[h] = digits.charAt(h) == '0' ? NONE : digits.charAt(h) - '1';
        }
        boolean found = false;
        for (int[] g : givings(hulls, names)) found |= Arrays.equals(g, told);
        if (!found) return STATE;
        int pair = firstPair(told, hulls, names);
        return pair == NONE ? NONE : what == 0 ? pair / 5 : pair % 5;
    }

    // ---- 4

    /** {days, name of hull 0, ..} or null: not all can sail. */
    private int[] leastVoyages(int names) {
        int[] best = null;
        for (int code = 0; code < 15625; code++) {
            int[] busy = new int[5];
            int[] way = new int[7];
            boolean good = true;
            int rest = code;
            for (int h = 5; h >= 0; h--) {
                int n = rest % 5;
                rest /= 5;
                if (kept.voyage[h] == 0) {
                    good &= n == 0;
                    way[h + 1] = NONE;
                    continue;
                }
                good &= (names & kept.may[h] & 1 << n) != 0;
                busy[n] += kept.voyage[h];
                way[h + 1] = n;
            }
            if (!good) continue;
            way[0] = Arrays.stream(busy).max().getAsInt();
            if (best == null || way[0] < best[0]) best = way;
        }
        return best;
    }

    long voyages(int i) {
        if (i < -1 || i > 5) return OUTSIDE;
        int[] way = leastVoyages(31);
        return way == null ? NONE : way[i + 1];
    }

    long letGo(int what) {
        if (what < 0 || what > 1) return OUTSIDE;
        int[] best = null;
        for (int n = 0; n < 5; n++) {
            int[] way = leastVoyages(31 - (1 << n));
            if (way != null && (best == null || way[0] < best[1])) best = new int[] {n, way[0]};
        }
        return best == null ? NONE : best[what];
    }

    /** The chance to come home as upper and lower number. */
    private BigInteger[] chance(int name, int days) {
        BigInteger upper = BigInteger.valueOf(100 - (10 - kept.luck[name])).pow(days);
        BigInteger lower = BigInteger.valueOf(100).pow(days);
        BigInteger common = upper.gcd(lower);
        return new BigInteger[] {upper.divide(common), lower.divide(common)};
    }

    long home(int name, int days, int part) {
        if (name < 0 || name > 4) return LentNames.LOST + UNKNOWN;
        if (days < 1 || days > 7 || part < 0 || part > 1) return LentNames.LOST + OUTSIDE;
        return chance(name, days)[part].longValueExact();
    }

    long asks(int name, int days, int v) {
        if (name < 0 || name > 4) return UNKNOWN;
        if (days < 1 || days > 7 || v < 0 || v > 999) return OUTSIDE;
        BigInteger[] chance = chance(name, days);
        BigInteger[] cut = chance[1].subtract(chance[0]).multiply(BigInteger.valueOf(v))
            .divideAndRemainder(chance[1]);
        return cut[0].longValueExact() + (cut[1].signum() > 0 ? 1 : 0);
    }

    long winter(int seed, int days, int what) {
        if (seed < 0 || seed > 9999 || days < 1 || days > 60 || what < 0 || what > 2) return OUTSIDE;
        Set<Integer> atHome = new HashSet<>(List.of(0, 1, 2, 3, 4));
        Trip[] trip = new Trip[6];
        boolean[] gone = new boolean[6];
        long x = seed;
        int homes = 0, drowned = 0, names = 0;
        for (int day = 0; day < days; day++) {
            for (int h = 0; h < 6; h++) {
                if (trip[h] != null && trip[h].home == day) {
                    atHome.add(trip[h].name);
                    trip[h] = null;
                    homes++;
                }
            }
            for (int h = 0; h < 6; h++) {
                if (gone[h] || trip[h] != null || kept.voyage[h] == 0) continue;
                for (int n = 0; n < 5; n++) {
                    if (atHome.contains(n) && (kept.may[h] >> n & 1) == 1) {
                        trip[h] = new Trip();
                        trip[h].name = n;
                        trip[h].home = day + kept.voyage[h];
                        atHome.remove(n);
                        break;
                    }
                }
            }
            for (int h = 0; h < 6; h++) {
                if (trip[h] == null) continue;
                x = (75 * x + 74) % 65537;
                if (x % 100 < 10 - kept.luck[trip[h].name]) {
                    gone[h] = true;
                    drowned++;
                    names |= 1 << trip[h].name;
                    trip[h] = null;
                }
            }
        }
        return what == 0 ? drowned : what == 1 ? names : homes;
    }

    long image(int n) {
        if (n < 0 || n > 1) return OUTSIDE;
        images[n] = kept.copy();
        return 1;
    }

    long restore(int n) {
        if (n < 0 || n > 1) return OUTSIDE;
        if (images[n] == null) return STATE;
        kept = images[n].copy();
        return 1;
    }

    long told(int what) {
        if (what == 0) return pad.length();
        if (what >= 10 && what < 16) return kept.may[what - 10];
        if (what >= 20 && what < 26) return kept.voyage[what - 20];
        if (what >= 30 && what < 35) return kept.luck[what - 30];
        if (what >= 40 && what < 45) return Integer.parseInt(kept.rank[what - 40]);
        if (what >= 100 && what < 130) return kept.worth[(what - 100) / 5][(what - 100) % 5];
        return OUTSIDE;
    }
}
