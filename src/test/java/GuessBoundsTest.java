import java.math.BigInteger;
import java.util.List;

/** The document's bounds of what was seen, of waits, of the seed and of winters: promises 20 to 27. */
public final class GuessBoundsTest {
    private static final int UNKNOWN = -1, BAD = -2, FULL = -4;
    private static final BigInteger TIMES = new BigInteger("6364136223846793005");
    private static final BigInteger AND = new BigInteger("1442695040888963407");
    private static final BigInteger WRAP = BigInteger.ONE.shiftLeft(64);

    private static final Due due = new Due("GuessBoundsTest");

    public static void main(String[] args) {
        eightSeen();
        unseen();
        seenOrNot();
        fitsNobodyAndNothing();
        fitsByFeetAndCornersAsNow();
        notThereAnyMore();
        mayBits();
        waitOfNothing();
        waitBounds();
        leastTerms();
        howLongBounds();
        howLongOfAll();
        seeds();
        winterBounds();
        winterUpperBits();
        winterWraps();
        winterPairs();
        winterChangesOnlyTheSeed();
        due.close();
    }

    private static void eightSeen() {
        due.sentence("SEEN: two were a PAIR, or not (or one was with nobody, or not); 8 such at most, none at first.");
        OneSkate x = Due.townOf(States.SIX);
        due.is("none at first", 0, x.about(7));
        for (int i = 1; i <= 8; i++) {
            due.is("see " + i, i, i % 2 == 0 ? x.see(1, 4, false) : x.see(0, 0, false));
            due.is("seen " + i, i, x.about(7));
        }
        int fits = x.fits();
        due.is("a ninth", FULL, x.see(0, 3, true));
        due.is("a ninth of one", FULL, x.see(0, 0, true));
        due.is("still eight", 8, x.about(7));
        due.is("the ninth is not looked at", fits, x.fits());
        due.sentence("UNKNOWN: both (both are one: with nobody); FULL: 8.");
        due.is("see(6, 0) when full", UNKNOWN, x.see(6, 0, true));
        due.is("unsee", 8, x.unsee());
        due.is("see(6, 0)", UNKNOWN, x.see(6, 0, true));
        due.is("see(0, 6)", UNKNOWN, x.see(0, 6, true));
        due.is("see(-1, 5)", UNKNOWN, x.see(-1, 5, false));
        due.is("see(5, -1)", UNKNOWN, x.see(5, -1, false));
        due.is("see(5, 5)", 1, x.see(5, 5, true));
        due.is("see(5, 0)", 2, x.see(5, 0, true));
        due.is("see of nobody", UNKNOWN, new OneSkate().see(0, 0, true));
    }

    private static void unseen() {
        due.sentence("Nothing was SEEN: how much there was.");
        for (int seen = 0; seen <= 8; seen++) {
            OneSkate x = Due.townOf(States.SIX);
            for (int i = 0; i < seen; i++) {
                x.see(0, 1, true);
            }
            due.is("fits before", seen == 0 ? 34 : 0, x.fits());
            due.is("unsee of " + seen, seen, x.unsee());
            due.is("unsee of none", 0, x.unsee());
            due.is("about(7)", 0, x.about(7));
            due.is("fits after", 34, x.fits());
            due.is("room for one", 1, x.see(0, 0, true));
        }
    }

    private static int fitsAfter(int one, int other, boolean were) {
        OneSkate x = Due.townOf(States.SIX);
        x.see(one, other, were);
        return x.fits();
    }

    private static void seenOrNot() {
        due.sentence("two were a PAIR, or not (or one was with nobody, or not)");
        // Of the 34 matchings 0 is with 3 in 7: those of two and two.
        for (int left = 0; left < 3; left++) {
            for (int right = 3; right < 6; right++) {
                due.is(left + " with " + right, 7, fitsAfter(left, right, true));
                due.is(right + " with " + left, 7, fitsAfter(right, left, true));
                due.is(left + " not with " + right, 27, fitsAfter(left, right, false));
                due.is(right + " not with " + left, 27, fitsAfter(right, left, false));
            }
        }
        for (int person = 0; person < 6; person++) {
            due.is(person + " with nobody", 13, fitsAfter(person, person, true));
            due.is(person + " not with nobody", 21, fitsAfter(person, person, false));
        }
        due.is("two of one foot", 0, fitsAfter(0, 1, true));
        due.is("two of one foot, not", 34, fitsAfter(4, 5, false));
    }

    private static void fitsNobodyAndNothing() {
        due.sentence("FITS: MATCHINGS of all PEOPLE by FEET (and CORNERS) as now that fit: how many");
        due.is("of nobody", 1, new OneSkate().fits());
        due.is("of six", 34, Due.townOf(States.SIX).fits());
        OneSkate x = Due.townOf(States.SIX);
        x.see(0, 3, true);
        x.see(1, 4, true);
        x.see(2, 5, true);
        due.is("the one that was", 1, x.fits());
        x.see(2, 5, true);
        due.is("the same once more", 1, x.fits());
        x.see(2, 5, false);
        due.is("and not: none", 0, x.fits());
        x.unsee();
        for (int person = 0; person < 6; person++) {
            x.see(person, person, true);
        }
        due.is("all with nobody", 1, x.fits());
    }

    private static void fitsByFeetAndCornersAsNow() {
        due.sentence("by FEET (and CORNERS) as now");
        OneSkate x = Due.townOf("N2C011sPl011Pr011Pl111Pr111");
        due.is("two and two", 4, x.fits());
        x.see(0, 3, true);
        due.is("0 and 3 are apart", 0, x.fits());
        x.push(0, 0);
        due.is("0 has come to 3: with 3, and 1 with nobody", 1, x.fits());
        x.undo();
        due.is("apart again", 0, x.fits());
        x.unsee();
        x.glide(0, 1, 0);
        due.is("all at one corner", 7, x.fits());
    }

    private static void remake(OneSkate x, String text) {
        x.wipe();
        Due.writeWide(x, text);
        x.town();
    }

    private static void notThereAnyMore() {
        due.sentence("(What is SEEN of one that is not there any more is not looked at.)");
        String part = "Pl011Pr011";
        for (int kind = 0; kind < 3; kind++) {
            OneSkate x = Due.townOf("N2" + part.repeat(3));
            x.see(kind == 1 ? 5 : 4, kind == 0 ? 4 : kind == 1 ? 0 : 5, true);
            int all = x.fits();
            due.holds("it is looked at", all < 34);
            remake(x, "N2" + part.repeat(2));
            due.is("there are four", 7, x.fits());
            due.is("may of the last", 64 + 1 + 4, x.may(3));
            remake(x, "N2" + part.repeat(2) + "Pl011");
            due.is("there are five", kind == 0 ? 7 : 13, x.fits());
            remake(x, "N2");
            due.is("there is nobody", 1, x.fits());
            due.is("it is seen all the same", 1, x.about(7));
            remake(x, "N2" + part.repeat(3));
            due.is("they are there again", all, x.fits());
        }
        OneSkate x = Due.townOf("N2Pl011Pr011");
        x.see(0, 1, true);
        remake(x, "N2Pr011Pl011");
        due.is("by the feet of those that are there now", 1, x.fits());
        remake(x, "N2Pr011Pr011");
        due.is("of one foot now", 0, x.fits());
    }

    private static void mayBits() {
        due.sentence("with whom one may have been (bits; bit 6: with nobody)");
        OneSkate x = Due.townOf(States.SIX);
        for (int person = 0; person < 6; person++) {
            due.is("may(" + person + ")", 64 + (person < 3 ? 8 + 16 + 32 : 1 + 2 + 4), x.may(person));
        }
        due.is("may(6)", UNKNOWN, x.may(6));
        due.is("may(-1)", UNKNOWN, x.may(-1));
        x.see(5, 5, false);
        x.see(5, 0, false);
        due.is("5 was with 1 or 2", 2 + 4, x.may(5));
        x.see(2, 2, true);
        due.is("5 was with 1", 2, x.may(5));
        due.is("1 was with 5", 32, x.may(1));
        due.is("2 was with nobody", 64, x.may(2));
        due.is("0 may have been with 3, 4, nobody", 64 + 8 + 16, x.may(0));
        x.see(1, 5, false);
        for (int person = 0; person < 6; person++) {
            due.is("nothing fits: may(" + person + ")", 0, x.may(person));
        }
        due.is("one alone", 64, Due.townOf("N2Pl010").may(0));
        due.is("nobody", UNKNOWN, new OneSkate().may(0));
    }

    private static void waits(int g, int h, int n, int x, long above, long below) {
        OneSkate skate = new OneSkate();
        String call = "waits(" + g + ", " + h + ", " + n + ", " + x + ")";
        due.is(call + " above", above, skate.waits(g, h, n, x, true));
        due.is(call + " below", below, skate.waits(g, h, n, x, false));
    }

    private static void waitOfNothing() {
        due.sentence("if nobody came, one PUSHES, h MINUTES (0 .. 99): how many in the mean, a FRACTION");
        for (int minutes = 0; minutes <= 99; minutes += 33) {
            for (int x = 0; x <= 10; x += 5) {
                waits(99 - minutes, minutes, 0, x, minutes, 1);
            }
            for (int n = 1; n <= 8; n++) {
                waits(99 - minutes, minutes, n, 0, minutes + n, 1);
                waits(99 - minutes, minutes, n, 10, 99 - minutes + 1, 1);
            }
        }
    }

    private static void waitBounds() {
        due.sentence("WAIT at a CORNER, n MINUTES at most (0 .. 8): at the end of each of them by x tenths (0 .. "
                + "10) somebody comes "
                + "with whom one is there in g more MINUTES (0 .. 99)");
        for (int n = -1; n <= 9; n += 10) {
            waits(0, 0, n, 5, BAD, BAD);
        }
        waits(0, 0, 0, 5, 0, 1);
        // 1 half the time, 2 a quarter of it, .., 8 twice by 1 in 256: 2 less 1 in 128.
        waits(0, 0, 8, 5, 255, 128);
        for (int tenths = -1; tenths <= 11; tenths += 12) {
            waits(0, 0, 1, tenths, BAD, BAD);
        }
        waits(0, 9, 1, 0, 10, 1);
        waits(0, 9, 1, 1, 91, 10);
        waits(0, 9, 1, 9, 19, 10);
        waits(0, 9, 1, 10, 1, 1);
        for (int minutes = -1; minutes <= 100; minutes += 101) {
            waits(minutes, 0, 1, 5, BAD, BAD);
            waits(0, minutes, 1, 5, BAD, BAD);
        }
        waits(0, 99, 1, 5, 101, 2);
        waits(99, 0, 1, 5, 101, 2);
        // 99, and the sum of 0.9 to the 0 .. 7.
        waits(99, 99, 8, 1, 1046953279L, 10000000L);
    }

    private static void leastTerms() {
        due.sentence("FRACTIONS are told above (upper = true), below, in least terms.");
        waits(0, 0, 0, 0, 0, 1);
        waits(3, 20, 4, 2, 8072, 625);
        waits(2, 9, 8, 1, 1070859837L, 100000000L);
        waits(0, 10, 1, 1, 10, 1);
        waits(0, 10, 8, 1, 10, 1);
        waits(0, 5, 8, 2, 5, 1);
        waits(1, 4, 1, 4, 19, 5);
        waits(1, 4, 1, 5, 7, 2);
        for (int x = 0; x <= 10; x++) {
            OneSkate skate = new OneSkate();
            for (int n = 0; n <= 8; n++) {
                BigInteger above = BigInteger.valueOf(skate.waits(7, 50, n, x, true));
                BigInteger below = BigInteger.valueOf(skate.waits(7, 50, n, x, false));
                due.is("in least terms: n " + n + ", x " + x, 1, above.gcd(below).intValue());
                due.holds("below divides ten to the n", BigInteger.TEN.pow(n).mod(below).signum() == 0);
            }
        }
    }

    private static void howLongBounds() {
        due.sentence("HOW LONG to wait (0 .. 8) for the least; of like ones the shortest.");
        OneSkate x = new OneSkate();
        due.is("howLong(0, 0, 0)", 0, x.howLong(0, 0, 0));
        due.is("howLong(99, 99, 10)", 0, x.howLong(99, 99, 10));
        due.is("like ones: all", 0, x.howLong(89, 99, 1));
        due.is("one minute more to push", 8, x.howLong(88, 99, 1));
        due.is("one minute less", 0, x.howLong(89, 98, 1));
        due.is("like ones: all but 0", 1, x.howLong(97, 99, 10));
        due.is("like ones: all, surely somebody comes", 0, x.howLong(98, 99, 10));
        due.is("nobody ever comes", 0, x.howLong(0, 99, 0));
        int[][] wrong = {{-1, 0, 0}, {100, 0, 0}, {0, -1, 0}, {0, 100, 0}, {0, 0, -1}, {0, 0, 11}};
        for (int[] each : wrong) {
            String call = "howLong(" + each[0] + ", " + each[1] + ", " + each[2] + ")";
            due.is(call, BAD, x.howLong(each[0], each[1], each[2]));
        }
    }

    /** Somebody comes by 10 in x minutes in the mean: if that is less than h - g, each minute of waiting gains. */
    private static void howLongOfAll() {
        due.sentence("for the least; of like ones the shortest");
        for (int tenths = 0; tenths <= 10; tenths++) {
            for (int g = 0; g <= 99; g++) {
                OneSkate x = new OneSkate();
                for (int h = 0; h <= 99; h++) {
                    boolean isGood = tenths * (h - g) > 10;
                    int want = !isGood ? 0 : tenths == 10 ? 1 : 8;
                    due.is("howLong(" + g + ", " + h + ", " + tenths + ")", want, x.howLong(g, h, tenths));
                }
            }
        }
    }

    private static void seeds() {
        due.sentence("THE SEED is v: what it was.");
        OneSkate x = new OneSkate();
        long was = 0;
        for (long v : new long[] {1, -1, Long.MAX_VALUE, Long.MIN_VALUE, 1L << 32, 0, 7}) {
            due.is("seed(" + v + ")", was, x.seed(v));
            was = v;
        }
        due.sentence("(THE SEED, a long; 0 at first)");
        due.is("0 at first", 0, new OneSkate().seed(1));
        due.is("0 at first in a town", 0, Due.townOf(States.SIX).seed(1));
    }

    private static long next(long seed) {
        return BigInteger.valueOf(seed).multiply(TIMES).add(AND).mod(WRAP).longValue();
    }

    /** The seed that becomes this one. */
    private static long before(long seed) {
        return BigInteger.valueOf(seed).subtract(AND).multiply(TIMES.modInverse(WRAP)).mod(WRAP).longValue();
    }

    private static void winterBounds() {
        due.sentence("A WINTER by THE SEED: m are born (1 .. 60)");
        for (int m : new int[] {0, 61, -1}) {
            OneSkate x = new OneSkate();
            x.seed(5);
            due.is("winter(" + m + ")", BAD, x.winter(m));
            due.is("the seed stays", 5, x.seed(0));
        }
        for (int m = 1; m <= 60; m++) {
            OneSkate x = new OneSkate();
            long seed = m * 1000L;
            x.seed(seed);
            int left = 0;
            for (int child = 0; child < m; child++) {
                seed = next(seed);
                left += (seed >>> 33 & 1) == 0 ? 1 : 0;
            }
            due.is("winter(" + m + ")", Math.min(left, m - left), x.winter(m));
            due.is("the seed has become " + m + " new ones", seed, x.seed(0));
        }
    }

    private static void winterUpperBits() {
        due.sentence("with the left FOOT, if its upper 31 bits are even");
        long[] even = {0, 1L << 32, (1L << 33) - 1, 1L << 34, Long.MIN_VALUE, -1L ^ 1L << 33, 5L << 34 | 123};
        long[] odd = {1L << 33, 3L << 33, (1L << 34) - 1, -1, Long.MAX_VALUE, Long.MIN_VALUE | 1L << 33, 1L << 33 | 1};
        for (int i = 0; i < even.length; i++) {
            due.is("left: beside a right one", 1, bornBeside("N2Pr010", even[i]));
            due.is("left: beside a left one", 0, bornBeside("N2Pl010", even[i]));
            due.is("right: beside a right one", 0, bornBeside("N2Pr010", odd[i]));
            due.is("right: beside a left one", 1, bornBeside("N2Pl010", odd[i]));
        }
    }

    private static int bornBeside(String text, long seed) {
        OneSkate x = Due.townOf(text);
        x.seed(before(seed));
        int pairs = x.winter(1);
        due.is("it has become", seed, x.seed(0));
        return pairs;
    }

    private static void winterWraps() {
        due.sentence("that becomes x times 6364136223846793005 and 1442695040888963407 (64 bits, wrapping)");
        long[] all = {0, 1, -1, 2, Long.MAX_VALUE, Long.MIN_VALUE, 1L << 62, -1L << 33, before(0), before(-1)};
        for (long seed : all) {
            OneSkate x = new OneSkate();
            x.seed(seed);
            x.winter(1);
            due.is("behind " + seed, next(seed), x.seed(seed));
            x.winter(2);
            due.is("twice behind " + seed, next(next(seed)), x.seed(0));
        }
        OneSkate x = new OneSkate();
        x.winter(60);
        long once = x.seed(0);
        x.winter(20);
        x.winter(40);
        due.is("60 at once or in two", once, x.seed(0));
    }

    private static void winterPairs() {
        due.sentence("how many PAIRS are made of all PEOPLE and those, at most");
        // Even behind this seed: one with the left foot is born.
        int[] pairs = {0, 1, 1, 1, 1, 1, 1};
        for (int right = 0; right <= 6; right++) {
            due.is(right + " right ones", pairs[right], bornBeside("N2" + "Pr011".repeat(right), 0));
            due.is(right + " left ones", 0, bornBeside("N2" + "Pl011".repeat(right), 0));
        }
        due.is("three and three, and one", 3, bornBeside(States.SIX, 0));
        due.is("two and four, and one left", 3, bornBeside("N2Pl011Pl011Pr011Pr011Pr011Pr011", 0));
        due.is("two and four, and one right", 2, bornBeside("N2Pl011Pl011Pr011Pr011Pr011Pr011", -1));
        due.is("wherever they are", 2, bornBeside("N3Pl011Pr011Pr211", 0));
    }

    private static void winterChangesOnlyTheSeed() {
        due.sentence("(Nothing changes but THE SEED.)");
        for (int m = 1; m <= 60; m += 59) {
            OneSkate x = States.rich();
            x.winter(m);
            long seed = x.seed(77);
            due.holds("the seed has changed", seed != 77);
            List<String> untouched = Probe.of(States.rich());
            due.same("something else changed by winter(" + m + ")", untouched, Probe.of(x));
        }
    }
}
