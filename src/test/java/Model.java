import java.math.BigInteger;
import java.util.ArrayList;
import java.util.Arrays;
import java.util.HashMap;
import java.util.HashSet;
import java.util.List;
import java.util.Map;
import java.util.Set;
import java.util.function.Predicate;
import java.util.regex.Pattern;

/** The document once more, slowly and by other means than the program's, to compare answers with. */
final class Model {
    static final int UNKNOWN = -1, BAD = -2, LATE = -3, FULL = -4, NONE = -9;
    private static final double NEVER = Double.POSITIVE_INFINITY;
    private static final Pattern SHAPE = Pattern.compile("N[2-6](C[0-5][0-5][1-9][lrs]|P[lr][0-5][1-9][0-5])*");
    private static final Map<String, Boolean> BEGINNINGS = new HashMap<>();

    private static final class Canal {
        int a, b, d;
        char k;
    }

    private static final class Person implements Cloneable {
        char foot;
        int corner, pace, goal, clock, worn;

        Person copy() {
            try {
                return (Person) clone();
            } catch (CloneNotSupportedException never) {
                throw new IllegalStateException(never);
            }
        }
    }

    private static final class Sight {
        int one, other;
        boolean were;
    }

    private String text = "";
    private int corners = 2;
    private List<Canal> canals = new ArrayList<>();
    private List<Person> people = new ArrayList<>();
    private final List<List<Person>> acts = new ArrayList<>();
    private final List<Sight> seen = new ArrayList<>();
    private final List<List<Person>> kept = new ArrayList<>(Arrays.asList(null, null));
    private long seed;

    // ---- the town

    int write(int n, long v) {
        if (n < 1 || n > 8) return BAD;
        if (text.length() + n > 80) return FULL;
        byte[] all = BigInteger.valueOf(v).toByteArray();
        StringBuilder come = new StringBuilder();
        for (int i = 0; i < n; i++) {
            int at = all.length - 1 - i;
            int value = at >= 0 ? all[at] & 255 : v < 0 ? 255 : 0;
            come.insert(0, (char) value);
        }
        text += come;
        return text.length();
    }

    int wipe() {
        int was = text.length();
        text = "";
        return was;
    }

    private static boolean isTown(String s) {
        if (!SHAPE.matcher(s).matches()) return false;
        int n = s.charAt(1) - '0';
        int people = 0, canals = 0;
        Set<Set<Integer>> joined = new HashSet<>();
        for (int i = 2; i < s.length(); i += 5) {
            if (s.charAt(i) == 'C') {
                int a = s.charAt(i + 1) - '0', b = s.charAt(i + 2) - '0';
                if (a >= n || b >= n || a == b) return false;
                if (!joined.add(new HashSet<>(Arrays.asList(a, b)))) return false;
                canals++;
            } else {
                if (s.charAt(i + 2) - '0' >= n || s.charAt(i + 4) - '0' >= n) return false;
                people++;
            }
        }
        return canals <= 8 && people <= 6;
    }

    /** Whether something that comes behind it makes it a town: all that ends the part it breaks off in is tried. */
    private static boolean canBeTown(String s) {
        Boolean known = BEGINNINGS.get(s);
        if (known == null) {
            known = completes(s, s.length() < 2 ? 2 - s.length() : (82 - s.length()) % 5);
            BEGINNINGS.put(s, known);
        }
        return known;
    }

    private static boolean completes(String s, int more) {
        if (more == 0) return isTown(s);
        for (char c : "NCPlrs0123456789".toCharArray()) {
            if (completes(s + c, more - 1)) return true;
        }
        return false;
    }

    int fault() {
        if (isTown(text)) return NONE;
        for (int i = 0; i < text.length(); i++) {
            if (!canBeTown(text.substring(0, i + 1))) return i;
        }
        return text.length();
    }

    int town() {
        if (!isTown(text)) return LATE;
        corners = text.charAt(1) - '0';
        canals = new ArrayList<>();
        people = new ArrayList<>();
        for (int i = 2; i < text.length(); i += 5) {
            String part = text.substring(i, i + 5);
            if (part.charAt(0) == 'C') {
                Canal c = new Canal();
                c.a = Math.min(part.charAt(1), part.charAt(2)) - '0';
                c.b = Math.max(part.charAt(1), part.charAt(2)) - '0';
                c.d = part.charAt(3) - '0';
                c.k = part.charAt(4);
                canals.add(c);
            } else {
                Person p = new Person();
                p.foot = part.charAt(1);
                p.corner = part.charAt(2) - '0';
                p.pace = part.charAt(3) - '0';
                p.goal = part.charAt(4) - '0';
                people.add(p);
            }
        }
        acts.clear();
        kept.set(0, null);
        kept.set(1, null);
        return people.size();
    }

    private int clocks() {
        return people.stream().mapToInt(p -> p.clock).sum();
    }

    int about(int what) {
        if (what == 0) return corners;
        if (what == 1) return canals.size();
        if (what == 2) return people.size();
        if (what == 3) return bits(p -> p.foot == 'l');
        if (what == 4) return bits(p -> p.corner == p.goal);
        if (what == 5) return clocks();
        if (what == 6) return acts.size();
        if (what == 7) return seen.size();
        return what == 8 ? text.length() : BAD;
    }

    private int bits(Predicate<Person> which) {
        int sum = 0;
        for (int i = 0; i < people.size(); i++) {
            if (which.test(people.get(i))) sum += (int) Math.pow(2, i);
        }
        return sum;
    }

    private boolean isPerson(int i) {
        return i >= 0 && i < people.size();
    }

    private boolean isCanal(int i) {
        return i >= 0 && i < canals.size();
    }

    private boolean isCorner(int i) {
        return i >= 0 && i < corners;
    }

    int person(int i, int what) {
        if (!isPerson(i)) return UNKNOWN;
        if (what < 0 || what > 5) return BAD;
        Person p = people.get(i);
        return new int[] {p.foot == 'l' ? 1 : 0, p.corner, p.pace, p.goal, p.clock, p.worn}[what];
    }

    int canal(int i, int what) {
        if (!isCanal(i)) return UNKNOWN;
        if (what < 0 || what > 3) return BAD;
        Canal c = canals.get(i);
        return new int[] {c.a, c.b, c.d, "slr".indexOf(c.k)}[what];
    }

    // ---- acts

    private static int glideMinutes(Person p, Person q, Canal c) {
        int sum = c.d * (10 - Math.min(p.pace, q.pace));
        if (p.foot == c.k) sum += p.worn;
        if (q.foot == c.k) sum += q.worn;
        return sum;
    }

    private List<Person> copies() {
        List<Person> all = new ArrayList<>();
        people.forEach(p -> all.add(p.copy()));
        return all;
    }

    private void remember() {
        acts.add(copies());
        if (acts.size() > 12) acts.remove(0);
    }

    int glide(int one, int other, int canal) {
        if (!isPerson(one) || !isPerson(other) || !isCanal(canal)) return UNKNOWN;
        Person p = people.get(one), q = people.get(other);
        Canal c = canals.get(canal);
        if (p.foot == q.foot) return BAD;
        boolean together = p.corner == c.a && q.corner == c.a || p.corner == c.b && q.corner == c.b;
        if (!together) return LATE;
        remember();
        int minutes = glideMinutes(p, q, c);
        int end = Math.max(p.clock, q.clock) + minutes;
        for (Person each : List.of(p, q)) {
            each.clock = end;
            each.corner = c.a + c.b - each.corner;
            if (each.foot == c.k && each.worn < 9) each.worn++;
        }
        return minutes;
    }

    int push(int one, int canal) {
        if (!isPerson(one) || !isCanal(canal)) return UNKNOWN;
        Person p = people.get(one);
        Canal c = canals.get(canal);
        if (p.corner != c.a && p.corner != c.b) return LATE;
        remember();
        int minutes = 3 * c.d * (10 - p.pace);
        p.clock += minutes;
        p.corner = c.a + c.b - p.corner;
        return minutes;
    }

    int undo() {
        if (acts.isEmpty()) return LATE;
        people = acts.remove(acts.size() - 1);
        return acts.size();
    }

    // ---- ways

    /** The least of all paths that come nowhere twice; q null: p alone. */
    private double path(Person p, Person q, int from, int to, int been) {
        if (from == to) return 0;
        double least = NEVER;
        for (Canal c : canals) {
            if (c.a != from && c.b != from) continue;
            int next = c.a + c.b - from;
            if ((been & 1 << next) != 0) continue;
            int minutes = q == null ? 3 * c.d * (10 - p.pace) : glideMinutes(p, q, c);
            least = Math.min(least, minutes + path(p, q, next, to, been | 1 << next));
        }
        return least;
    }

    private double path(Person p, Person q, int from, int to) {
        return path(p, q, from, to, 1 << from);
    }

    private static int told(double minutes) {
        return minutes == NEVER ? NONE : (int) minutes;
    }

    int way(int one, int other, int from, int to) {
        if (!isPerson(one) || !isPerson(other) || !isCorner(from) || !isCorner(to)) return UNKNOWN;
        if (people.get(one).foot == people.get(other).foot) return BAD;
        return told(path(people.get(one), people.get(other), from, to));
    }

    int alone(int one, int from, int to) {
        if (!isPerson(one) || !isCorner(from) || !isCorner(to)) return UNKNOWN;
        return told(path(people.get(one), null, from, to));
    }

    // ---- matchings

    /** The clock of one by itself (other the same) or in a pair. */
    private double end(int one, int other) {
        Person p = people.get(one), q = people.get(other);
        if (one == other) return p.clock + path(p, null, p.corner, p.goal);
        double begin = Math.max(p.clock, q.clock);
        double[] mine = {begin + path(p, q, p.corner, p.goal), 0};
        double[] its = {mine[0] + path(q, null, p.goal, q.goal), begin + path(p, q, p.corner, q.goal)};
        mine[1] = its[1] + path(p, null, q.goal, p.goal);
        double toMine = mine[0] + its[0], toIts = mine[1] + its[1];
        if (toMine == NEVER && toIts == NEVER) return NEVER;
        if (toMine != toIts) return toMine < toIts ? mine[0] : mine[1];
        return one < other ? mine[0] : mine[1];
    }

    private boolean couldPair(int one, int other) {
        Person p = people.get(one), q = people.get(other);
        return p.foot != q.foot && p.corner == q.corner;
    }

    /** All matchings as rows of mates, in no order that is promised: sets of pairs, none in two. */
    private List<int[]> matchings() {
        List<int[]> pairs = new ArrayList<>();
        for (int i = 0; i < people.size(); i++) {
            for (int j = i + 1; j < people.size(); j++) {
                if (couldPair(i, j)) pairs.add(new int[] {i, j});
            }
        }
        List<int[]> all = new ArrayList<>();
        for (int set = 0; set < 1 << pairs.size(); set++) {
            if (Integer.bitCount(set) > 3) continue;
            int[] mates = new int[people.size()];
            for (int i = 0; i < mates.length; i++) mates[i] = i;
            boolean fine = true;
            for (int k = 0; k < pairs.size(); k++) {
                if ((set & 1 << k) == 0) continue;
                int i = pairs.get(k)[0], j = pairs.get(k)[1];
                fine &= mates[i] == i && mates[j] == j;
                mates[i] = j;
                mates[j] = i;
            }
            if (fine) all.add(mates);
        }
        return all;
    }

    private double clocksOf(int[] mates, double[][] ends) {
        double sum = 0;
        for (int i = 0; i < mates.length; i++) sum += ends[i][mates[i]];
        return sum;
    }

    private double[][] ends() {
        double[][] all = new double[people.size()][people.size()];
        for (int i = 0; i < all.length; i++) {
            for (int j = 0; j < all.length; j++) {
                if (i == j || couldPair(i, j)) all[i][j] = end(i, j);
            }
        }
        return all;
    }

    private static boolean isLikedMore(int[] one, int[] other) {
        for (int i = 0; i < one.length; i++) {
            int a = one[i] == i ? -1 : one[i];
            int b = other[i] == i ? -1 : other[i];
            if (a != b) return a < b;
        }
        return false;
    }

    private int[] best() {
        double[][] ends = ends();
        int[] best = null;
        for (int[] mates : matchings()) {
            double clocks = clocksOf(mates, ends);
            if (clocks == NEVER) continue;
            double least = best == null ? NEVER : clocksOf(best, ends);
            if (clocks < least || clocks == least && isLikedMore(mates, best)) best = mates;
        }
        return best;
    }

    int soonest() {
        int[] best = best();
        return best == null ? NONE : (int) clocksOf(best, ends());
    }

    int soonestWith(int one) {
        if (!isPerson(one)) return UNKNOWN;
        int[] best = best();
        return best == null ? NONE : best[one];
    }

    int worth(int one) {
        if (!isPerson(one)) return UNKNOWN;
        Person p = people.get(one);
        int asIs = soonest();
        char foot = p.foot;
        p.foot = foot == 'l' ? 'r' : 'l';
        int changed = soonest();
        p.foot = foot;
        return asIs == NONE || changed == NONE ? NONE : changed - asIs + 1000;
    }

    int byLaw() {
        String feet = "";
        for (Person p : people) feet += p.foot;
        int best = NONE, least = 0;
        for (int bits = 0; bits < 1 << people.size(); bits++) {
            for (int i = 0; i < people.size(); i++) people.get(i).foot = (bits & 1 << i) != 0 ? 'l' : 'r';
            int clocks = soonest();
            if (clocks != NONE && (best == NONE || clocks < least)) {
                best = bits;
                least = clocks;
            }
        }
        for (int i = 0; i < people.size(); i++) people.get(i).foot = feet.charAt(i);
        return best;
    }

    int leftAlone() {
        double[][] ends = ends();
        int found = 0;
        for (int[] mates : matchings()) {
            boolean isLeft = true;
            for (int i = 0; i < mates.length; i++) {
                double mine = ends[i][mates[i]];
                if (mates[i] != i && ends[i][i] < mine) isLeft = false;
                for (int j = 0; j < mates.length; j++) {
                    if (couldPair(i, j) && ends[i][j] < mine && ends[j][i] < ends[j][mates[j]]) isLeft = false;
                }
            }
            if (isLeft) found++;
        }
        return found;
    }

    int asking(int one) {
        if (!isPerson(one)) return UNKNOWN;
        double[][] ends = ends();
        int n = people.size();
        Map<Integer, Integer> takenBy = new HashMap<>();
        Set<String> refusals = new HashSet<>();
        boolean again = true;
        while (again) {
            again = false;
            for (int i = 0; i < n && !again; i++) {
                if (people.get(i).foot != 'l' || takenBy.containsValue(i)) continue;
                int liked = -1;
                for (int j = 0; j < n; j++) {
                    if (!couldPair(i, j) || refusals.contains(j + " refused " + i)) continue;
                    if (liked < 0 || ends[i][j] < ends[i][liked]) liked = j;
                }
                if (liked < 0 || ends[i][liked] >= ends[i][i]) continue;
                again = true;
                Integer with = takenBy.get(liked);
                double now = with == null ? NEVER : ends[liked][with];
                if (ends[liked][i] < ends[liked][liked] && (with == null || ends[liked][i] < now)) {
                    takenBy.put(liked, i);
                    if (with != null) refusals.add(liked + " refused " + with);
                } else {
                    refusals.add(liked + " refused " + i);
                }
            }
        }
        if (takenBy.containsKey(one)) return takenBy.get(one);
        for (Map.Entry<Integer, Integer> pair : takenBy.entrySet()) {
            if (pair.getValue() == one) return pair.getKey();
        }
        return one;
    }

    // ---- guessed

    int see(int one, int other, boolean were) {
        if (!isPerson(one) || !isPerson(other)) return UNKNOWN;
        if (seen.size() == 8) return FULL;
        Sight sight = new Sight();
        sight.one = one;
        sight.other = other;
        sight.were = were;
        seen.add(sight);
        return seen.size();
    }

    int unsee() {
        int was = seen.size();
        seen.clear();
        return was;
    }

    private List<int[]> fitting() {
        List<int[]> all = matchings();
        for (Sight s : seen) {
            if (isPerson(s.one) && isPerson(s.other)) all.removeIf(m -> (m[s.one] == s.other) != s.were);
        }
        return all;
    }

    int fits() {
        return fitting().size();
    }

    int may(int one) {
        if (!isPerson(one)) return UNKNOWN;
        int bits = 0;
        for (int[] mates : fitting()) bits |= mates[one] == one ? 64 : 1 << mates[one];
        return bits;
    }

    /** The mean times 10 to the 8th. */
    private static BigInteger mean(int g, int h, int n, int x) {
        BigInteger sum = BigInteger.ZERO;
        BigInteger ten = BigInteger.TEN, not = BigInteger.valueOf(10 - x);
        for (int k = 1; k <= n; k++) {
            BigInteger chance = not.pow(k - 1).multiply(BigInteger.valueOf(x)).multiply(ten.pow(8 - k));
            sum = sum.add(chance.multiply(BigInteger.valueOf(k + g)));
        }
        return sum.add(not.pow(n).multiply(ten.pow(8 - n)).multiply(BigInteger.valueOf(n + h)));
    }

    private static boolean isBad(int v, int most) {
        return v < 0 || v > most;
    }

    long waits(int g, int h, int n, int x, boolean upper) {
        if (isBad(g, 99) || isBad(h, 99) || isBad(n, 8) || isBad(x, 10)) return BAD;
        BigInteger above = mean(g, h, n, x), below = BigInteger.TEN.pow(8);
        return (upper ? above : below).divide(above.gcd(below)).longValueExact();
    }

    int howLong(int g, int h, int x) {
        if (isBad(g, 99) || isBad(h, 99) || isBad(x, 10)) return BAD;
        int best = 0;
        for (int n = 1; n <= 8; n++) {
            if (mean(g, h, n, x).compareTo(mean(g, h, best, x)) < 0) best = n;
        }
        return best;
    }

    long seed(long v) {
        long was = seed;
        seed = v;
        return was;
    }

    int winter(int m) {
        if (m < 1 || m > 60) return BAD;
        int left = 0;
        for (Person p : people) left += p.foot == 'l' ? 1 : 0;
        for (int i = 0; i < m; i++) {
            BigInteger next = BigInteger.valueOf(seed).multiply(new BigInteger("6364136223846793005"));
            next = next.add(new BigInteger("1442695040888963407")).mod(BigInteger.TWO.pow(64));
            seed = next.longValue();
            if (!next.shiftRight(33).testBit(0)) left++;
        }
        return Math.min(left, people.size() + m - left);
    }

    // ---- slots

    int keep(int slot) {
        if (slot != 0 && slot != 1) return UNKNOWN;
        kept.set(slot, copies());
        return clocks();
    }

    int again(int slot) {
        if (slot != 0 && slot != 1) return UNKNOWN;
        if (kept.get(slot) == null) return LATE;
        people = kept.get(slot);
        kept.set(slot, copies());
        acts.clear();
        return clocks();
    }
}
