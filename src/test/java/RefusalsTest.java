import java.util.List;
import java.util.function.Supplier;
import java.util.function.ToLongFunction;

/** REFUSALS: just outside of every bound, which refusal is told, and that nothing has changed behind it. */
public final class RefusalsTest {
    private static final int UNKNOWN = -1, BAD = -2, LATE = -3, FULL = -4;
    private static final int MIN = Integer.MIN_VALUE, MAX = Integer.MAX_VALUE;

    private static final Due due = new Due("RefusalsTest");

    /** A way to make an object in some state, and what an untouched one tells. */
    private static final class State {
        final String name;
        final Supplier<OneSkate> maker;
        final List<String> untouched;

        State(String name, Supplier<OneSkate> maker) {
            this.name = name;
            this.maker = maker;
            this.untouched = Probe.of(maker.get());
        }
    }

    private static final State FRESH = new State("fresh", States::fresh);
    private static final State RICH = new State("rich", States::rich);
    private static final State CROWDED = new State("full", States::full);
    private static final State BARE = new State("bare", States::bare);
    private static final State[] ALL = {FRESH, RICH, CROWDED, BARE};

    public static void main(String[] args) {
        statesAreAsTold();
        codes();
        write();
        town();
        whats();
        glide();
        push();
        undo();
        ways();
        ofOnePerson();
        see();
        waits();
        winter();
        slots();
        severalRefusals();
        looksChangeNothing();
        due.close();
    }

    private static void refused(State state, String call, long want, ToLongFunction<OneSkate> calling) {
        OneSkate x = state.maker.get();
        due.is(state.name + ": " + call, want, calling.applyAsLong(x));
        due.same(state.name + ": something changed by " + call, state.untouched, Probe.of(x));
    }

    /** Numbers that are just outside of 0 .. count - 1, far outside, and alike to some inside by their low bits. */
    private static int[] outside(int count) {
        return new int[] {-1, -2, count, count + 1, 32, 33, 64, -32, 256, MIN, MIN + 1, MAX};
    }

    /** If the states were poorer than told, less would be seen by the other tests. */
    private static void statesAreAsTold() {
        OneSkate x = States.rich();
        due.is("rich: acts", 12, x.about(6));
        due.is("rich: seen", 3, x.about(7));
        due.is("rich: fault", OneSkate.NONE, x.fault());
        due.holds("rich: slots are unlike", x.again(0) != x.again(1));
        x = States.full();
        due.is("full: seen", 8, x.about(7));
        due.is("full: bytes", 80, x.about(8));
        due.is("full: fault", 27, x.fault());
        x = States.bare();
        due.is("bare: acts", 0, x.about(6));
        due.is("bare: slot 0", LATE, x.again(0));
        due.is("bare: slot 1", 30, x.again(1));
    }

    private static void codes() {
        due.sentence("REFUSALS: UNKNOWN -1 (there is no such PERSON, CANAL, CORNER, SLOT), BAD -2, LATE -3, FULL -4.");
        due.is("UNKNOWN", -1, OneSkate.UNKNOWN);
        due.is("BAD", -2, OneSkate.BAD);
        due.is("LATE", -3, OneSkate.LATE);
        due.is("FULL", -4, OneSkate.FULL);
        due.sentence("NONE is -9.");
        due.is("NONE", -9, OneSkate.NONE);
    }

    private static void write() {
        due.sentence("n bytes (1 .. 8) of v, the lowest n, the highest of these first, come behind THE TEXT");
        for (State state : ALL) {
            for (int n : new int[] {0, 9, 10, -1, -8, 16, 64, 256, MIN, MAX}) {
                refused(state, "write(" + n + ", v)", BAD, x -> x.write(n, 0x4E32L));
            }
        }
        due.sentence("BAD; FULL: it would be longer than 80 (nothing comes).");
        for (int n = 1; n <= 8; n++) {
            int bytes = n;
            refused(CROWDED, "write(" + n + ") at 80", FULL, x -> x.write(bytes, 0x4E4E4E4E4E4E4E4EL));
            State oneTooLong = new State("text of " + (81 - n), () -> textOf(81 - bytes));
            refused(oneTooLong, "write(" + n + ")", FULL, x -> x.write(bytes, 0x4E4E4E4E4E4E4E4EL));
            due.is("write(" + n + ") at " + (80 - n), 80, textOf(80 - n).write(n, 0));
        }
    }

    private static OneSkate textOf(int bytes) {
        OneSkate x = new OneSkate();
        Due.writeWide(x, ("N2C011s" + "P".repeat(80)).substring(0, bytes));
        return x;
    }

    private static void town() {
        due.sentence("LATE: a FAULT.");
        for (State state : new State[] {FRESH, CROWDED, BARE}) {
            refused(state, "town()", LATE, x -> x.town());
        }
        for (String text : new String[] {"N", "N3C01", "N3Pl0", "N7", "N3Pl011x"}) {
            State faulty = new State("text " + text, () -> {
                OneSkate x = States.rich();
                x.wipe();
                Due.write(x, text);
                return x;
            });
            refused(faulty, "town()", LATE, x -> x.town());
        }
    }

    private static void whats() {
        due.sentence("SEEN (7), bytes of THE TEXT (8). BAD.");
        for (State state : ALL) {
            for (int what : outside(9)) {
                refused(state, "about(" + what + ")", BAD, x -> x.about(what));
            }
        }
        due.sentence("CLOCK (4), how WORN it is (5). UNKNOWN; BAD.");
        for (int wrong : outside(3)) {
            refused(RICH, "person(" + wrong + ", 0)", UNKNOWN, x -> x.person(wrong, 0));
        }
        for (int wrong : outside(6)) {
            refused(RICH, "person(0, " + wrong + ")", BAD, x -> x.person(0, wrong));
        }
        due.sentence("how it bends (3: 0 not, 1 left, 2 right). UNKNOWN; BAD.");
        for (int wrong : outside(2)) {
            refused(RICH, "canal(" + wrong + ", 0)", UNKNOWN, x -> x.canal(wrong, 0));
        }
        for (int wrong : outside(4)) {
            refused(RICH, "canal(0, " + wrong + ")", BAD, x -> x.canal(0, wrong));
        }
        refused(FRESH, "person(0, 0)", UNKNOWN, x -> x.person(0, 0));
        refused(FRESH, "canal(0, 0)", UNKNOWN, x -> x.canal(0, 0));
    }

    private static void glide() {
        due.sentence("A GLIDE: MINUTES. UNKNOWN: both, canal;");
        for (int wrong : outside(3)) {
            refused(RICH, "glide(" + wrong + ", 1, 1)", UNKNOWN, x -> x.glide(wrong, 1, 1));
            refused(RICH, "glide(0, " + wrong + ", 1)", UNKNOWN, x -> x.glide(0, wrong, 1));
        }
        for (int wrong : outside(2)) {
            refused(RICH, "glide(0, 1, " + wrong + ")", UNKNOWN, x -> x.glide(0, 1, wrong));
        }
        refused(FRESH, "glide(0, 1, 0)", UNKNOWN, x -> x.glide(0, 1, 0));
        due.sentence("BAD: both have one FOOT (or are one); LATE: one is at no end of it, or they are not at one "
                + "CORNER.");
        for (State state : new State[] {RICH, CROWDED, BARE}) {
            refused(state, "glide(0, 2, 0): one foot", BAD, x -> x.glide(0, 2, 0));
            refused(state, "glide(2, 0, 1): one foot", BAD, x -> x.glide(2, 0, 1));
            refused(state, "glide(0, 0, 0): are one", BAD, x -> x.glide(0, 0, 0));
            refused(state, "glide(1, 1, 0): are one", BAD, x -> x.glide(1, 1, 0));
        }
        // Bare: 0 and 2 are at 1, 1 is at 0.
        refused(BARE, "glide(0, 1, 0): at either end of it", LATE, x -> x.glide(0, 1, 0));
        refused(BARE, "glide(1, 2, 0): at either end of it", LATE, x -> x.glide(1, 2, 0));
        refused(BARE, "glide(1, 2, 1): the first is at no end of it", LATE, x -> x.glide(1, 2, 1));
        refused(BARE, "glide(2, 1, 1): the second is at no end of it", LATE, x -> x.glide(2, 1, 1));
        State together = new State("start", () -> Due.townOf(States.THREE));
        refused(together, "glide(0, 1, 1): both are at no end of it", LATE, x -> x.glide(0, 1, 1));
        due.is("glide(0, 1, 0): both are at an end of it", 10, together.maker.get().glide(0, 1, 0));
    }

    private static void push() {
        due.sentence("A PUSH: MINUTES. UNKNOWN; LATE: it is at no end of it.");
        for (int wrong : outside(3)) {
            refused(RICH, "push(" + wrong + ", 0)", UNKNOWN, x -> x.push(wrong, 0));
        }
        for (int wrong : outside(2)) {
            refused(RICH, "push(0, " + wrong + ")", UNKNOWN, x -> x.push(0, wrong));
        }
        refused(FRESH, "push(0, 0)", UNKNOWN, x -> x.push(0, 0));
        refused(BARE, "push(1, 1): it is at 0", LATE, x -> x.push(1, 1));
        due.is("bare: push(1, 0): it is at 0", 18, States.bare().push(1, 0));
        due.is("bare: push(0, 1): it is at 1", 45, States.bare().push(0, 1));
    }

    private static void undo() {
        due.sentence("The last ACT is undone: how many are left. LATE: there is none.");
        refused(FRESH, "undo()", LATE, x -> x.undo());
        refused(BARE, "undo()", LATE, x -> x.undo());
        State undone = new State("all undone", () -> {
            OneSkate x = States.rich();
            for (int i = 0; i < 12; i++) {
                x.undo();
            }
            return x;
        });
        refused(undone, "undo()", LATE, x -> x.undo());
    }

    private static void ways() {
        due.sentence("WAY; NONE. UNKNOWN: both, from, to; BAD: both have one FOOT (or are one).");
        for (int wrong : outside(3)) {
            refused(RICH, "way(" + wrong + ", 1, 0, 0)", UNKNOWN, x -> x.way(wrong, 1, 0, 0));
            refused(RICH, "way(0, " + wrong + ", 0, 0)", UNKNOWN, x -> x.way(0, wrong, 0, 0));
            refused(RICH, "way(0, 1, " + wrong + ", 0)", UNKNOWN, x -> x.way(0, 1, wrong, 0));
            refused(RICH, "way(0, 1, 0, " + wrong + ")", UNKNOWN, x -> x.way(0, 1, 0, wrong));
        }
        refused(FRESH, "way(0, 1, 0, 1)", UNKNOWN, x -> x.way(0, 1, 0, 1));
        refused(RICH, "way(0, 2, 0, 1): one foot", BAD, x -> x.way(0, 2, 0, 1));
        refused(RICH, "way(2, 0, 0, 0): one foot, to where one is", BAD, x -> x.way(2, 0, 0, 0));
        refused(RICH, "way(1, 1, 0, 1): are one", BAD, x -> x.way(1, 1, 0, 1));
        due.sentence("ALONE; NONE. UNKNOWN.");
        for (int wrong : outside(3)) {
            refused(RICH, "alone(" + wrong + ", 0, 0)", UNKNOWN, x -> x.alone(wrong, 0, 0));
            refused(RICH, "alone(0, " + wrong + ", 0)", UNKNOWN, x -> x.alone(0, wrong, 0));
            refused(RICH, "alone(0, 0, " + wrong + ")", UNKNOWN, x -> x.alone(0, 0, wrong));
        }
        refused(FRESH, "alone(0, 0, 0)", UNKNOWN, x -> x.alone(0, 0, 0));
    }

    private static void ofOnePerson() {
        for (int wrong : outside(3)) {
            due.sentence("With whom one is in it (itself: nobody); NONE: there is none. UNKNOWN.");
            refused(RICH, "soonestWith(" + wrong + ")", UNKNOWN, x -> x.soonestWith(wrong));
            due.sentence("WORTH; NONE. UNKNOWN.");
            refused(RICH, "worth(" + wrong + ")", UNKNOWN, x -> x.worth(wrong));
            due.sentence("ASKING: with whom one is (itself: nobody). UNKNOWN.");
            refused(RICH, "asking(" + wrong + ")", UNKNOWN, x -> x.asking(wrong));
            due.sentence("With whom one may have been, as bits. UNKNOWN.");
            refused(RICH, "may(" + wrong + ")", UNKNOWN, x -> x.may(wrong));
        }
        refused(FRESH, "soonestWith(0)", UNKNOWN, x -> x.soonestWith(0));
        refused(FRESH, "worth(0)", UNKNOWN, x -> x.worth(0));
        refused(FRESH, "asking(0)", UNKNOWN, x -> x.asking(0));
        refused(FRESH, "may(0)", UNKNOWN, x -> x.may(0));
        OneSkate six = Due.townOf(States.SIX);
        due.is("six: soonestWith(5)", 2, six.soonestWith(5));
        due.is("six: soonestWith(6)", UNKNOWN, six.soonestWith(6));
        due.is("six: asking(5)", 2, six.asking(5));
        due.is("six: asking(6)", UNKNOWN, six.asking(6));
        due.is("six: worth(5)", 1036, six.worth(5));
        due.is("six: worth(6)", UNKNOWN, six.worth(6));
        due.is("six: may(5)", 64 + 7, six.may(5));
        due.is("six: may(6)", UNKNOWN, six.may(6));
    }

    private static void see() {
        due.sentence("UNKNOWN: both (both are one: with nobody); FULL: 8.");
        for (int wrong : outside(3)) {
            refused(RICH, "see(" + wrong + ", 1, true)", UNKNOWN, x -> x.see(wrong, 1, true));
            refused(RICH, "see(0, " + wrong + ", false)", UNKNOWN, x -> x.see(0, wrong, false));
            refused(RICH, "see(" + wrong + ", the same, true)", UNKNOWN, x -> x.see(wrong, wrong, true));
        }
        refused(FRESH, "see(0, 0, true)", UNKNOWN, x -> x.see(0, 0, true));
        refused(CROWDED, "see(0, 1, true)", FULL, x -> x.see(0, 1, true));
        refused(CROWDED, "see(0, 1, false)", FULL, x -> x.see(0, 1, false));
        refused(CROWDED, "see(2, 2, false)", FULL, x -> x.see(2, 2, false));
    }

    private static void waits() {
        due.sentence("WAIT: the mean. BAD: g, h, n, x.");
        for (int wrong : outside(100)) {
            if (wrong < 0 || wrong > 99) {
                refused(RICH, "waits(g " + wrong + ")", BAD, x -> x.waits(wrong, 9, 1, 5, true));
                refused(RICH, "waits(h " + wrong + ")", BAD, x -> x.waits(2, wrong, 1, 5, false));
            }
        }
        for (int wrong : outside(9)) {
            refused(RICH, "waits(n " + wrong + ")", BAD, x -> x.waits(2, 9, wrong, 5, true));
        }
        for (int wrong : outside(11)) {
            refused(RICH, "waits(x " + wrong + ")", BAD, x -> x.waits(2, 9, 1, wrong, false));
        }
        due.sentence("HOW LONG. BAD: g, h, x.");
        for (int wrong : outside(100)) {
            if (wrong < 0 || wrong > 99) {
                refused(RICH, "howLong(g " + wrong + ")", BAD, x -> x.howLong(wrong, 9, 5));
                refused(RICH, "howLong(h " + wrong + ")", BAD, x -> x.howLong(2, wrong, 5));
            }
        }
        for (int wrong : outside(11)) {
            refused(RICH, "howLong(x " + wrong + ")", BAD, x -> x.howLong(2, 9, wrong));
        }
    }

    private static void winter() {
        due.sentence("A WINTER. BAD: m.");
        for (State state : ALL) {
            for (int wrong : new int[] {0, -1, -60, 61, 62, 64, 256, MIN, MAX}) {
                refused(state, "winter(" + wrong + ")", BAD, x -> x.winter(wrong));
            }
        }
    }

    private static void slots() {
        due.sentence("They are kept: CLOCKS together. UNKNOWN.");
        for (State state : ALL) {
            for (int wrong : outside(2)) {
                refused(state, "keep(" + wrong + ")", UNKNOWN, x -> x.keep(wrong));
                refused(state, "again(" + wrong + ")", UNKNOWN, x -> x.again(wrong));
            }
        }
        due.sentence("They are as they were kept: CLOCKS together. UNKNOWN; LATE: none were kept.");
        refused(FRESH, "again(0)", LATE, x -> x.again(0));
        refused(FRESH, "again(1)", LATE, x -> x.again(1));
        refused(BARE, "again(0)", LATE, x -> x.again(0));
        State moved = new State("acts, nothing kept", () -> {
            OneSkate x = Due.townOf(States.THREE);
            x.glide(0, 1, 0);
            return x;
        });
        refused(moved, "again(0)", LATE, x -> x.again(0));
        refused(moved, "again(1)", LATE, x -> x.again(1));
    }

    private static void severalRefusals() {
        due.sentence("Of several what is told first.");
        refused(CROWDED, "write(0) at 80", BAD, x -> x.write(0, 0));
        refused(CROWDED, "write(9) at 80", BAD, x -> x.write(9, 0));
        refused(CROWDED, "person(3, 6)", UNKNOWN, x -> x.person(3, 6));
        refused(CROWDED, "canal(2, 4)", UNKNOWN, x -> x.canal(2, 4));
        refused(CROWDED, "glide(3, 3, 0): unknown, are one", UNKNOWN, x -> x.glide(3, 3, 0));
        refused(CROWDED, "glide(0, 2, 2): one foot, no such canal", UNKNOWN, x -> x.glide(0, 2, 2));
        refused(CROWDED, "glide(1, 1, 2): are one, no such canal", UNKNOWN, x -> x.glide(1, 1, 2));
        refused(BARE, "glide(0, 2, 0): one foot, at an end", BAD, x -> x.glide(0, 2, 0));
        refused(BARE, "glide(1, 1, 1): are one, at no end", BAD, x -> x.glide(1, 1, 1));
        refused(BARE, "push(3, 1)", UNKNOWN, x -> x.push(3, 1));
        refused(BARE, "push(1, 2)", UNKNOWN, x -> x.push(1, 2));
        refused(CROWDED, "way(0, 2, 3, 0): one foot, no such corner", UNKNOWN, x -> x.way(0, 2, 3, 0));
        refused(CROWDED, "way(0, 0, 0, 3): are one, no such corner", UNKNOWN, x -> x.way(0, 0, 0, 3));
        refused(CROWDED, "way(3, 3, 0, 0)", UNKNOWN, x -> x.way(3, 3, 0, 0));
        refused(CROWDED, "see(3, 0, true) when 8 are seen", UNKNOWN, x -> x.see(3, 0, true));
        refused(CROWDED, "see(0, -1, false) when 8 are seen", UNKNOWN, x -> x.see(0, -1, false));
        refused(BARE, "again(2) when slot 0 is empty", UNKNOWN, x -> x.again(2));
        refused(FRESH, "again(-1) when all are empty", UNKNOWN, x -> x.again(-1));
    }

    private static void looks(State state, String call, ToLongFunction<OneSkate> calling) {
        OneSkate x = state.maker.get();
        long first = calling.applyAsLong(x);
        due.is(state.name + ": " + call + " once more", first, calling.applyAsLong(x));
        due.same(state.name + ": something changed by " + call, state.untouched, Probe.of(x));
    }

    private static void looksChangeNothing() {
        due.sentence("In what follows nothing is changed; all are WORN as now all the time.");
        for (State state : ALL) {
            looks(state, "soonest()", x -> x.soonest());
            looks(state, "byLaw()", x -> x.byLaw());
            looks(state, "leftAlone()", x -> x.leftAlone());
            looks(state, "fits()", x -> x.fits());
            looks(state, "fault()", x -> x.fault());
            looks(state, "waits(2, 9, 8, 1, true)", x -> x.waits(2, 9, 8, 1, true));
            looks(state, "howLong(5, 9, 5)", x -> x.howLong(5, 9, 5));
            looks(state, "about(5)", x -> x.about(5));
            for (int each = 0; each < 3; each++) {
                int one = each;
                looks(state, "soonestWith(" + one + ")", x -> x.soonestWith(one));
                looks(state, "worth(" + one + ")", x -> x.worth(one));
                looks(state, "asking(" + one + ")", x -> x.asking(one));
                looks(state, "may(" + one + ")", x -> x.may(one));
                looks(state, "way(0, 1, 2, " + one + ")", x -> x.way(0, 1, 2, one));
                looks(state, "alone(" + one + ", 0, 2)", x -> x.alone(one, 0, 2));
                looks(state, "person(" + one + ", 4)", x -> x.person(one, 4));
                looks(state, "canal(" + one + ", 2)", x -> x.canal(one, 2));
            }
        }
    }
}
