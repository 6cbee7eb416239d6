import java.util.ArrayList;
import java.util.List;

/** The document's bounds of glides, pushes, the row of acts and the slots: promises 9 to 11, 28 and 29. */
public final class ActsBoundsTest {
    private static final int UNKNOWN = -1, BAD = -2, LATE = -3;

    private static final Due due = new Due("ActsBoundsTest");

    public static void main(String[] args) {
        glideBetweenEnds();
        glideMinutes();
        glideWears();
        glideByWhomItBends();
        wornNineAtMost();
        glideClocks();
        push();
        twelveActs();
        undoneOneByOne();
        undoneToTheFirst();
        refusedIsNoAct();
        slotsZeroAndOne();
        whatSlotsKeep();
        goneOnFrom();
        keptOver();
        due.close();
    }

    private static String standing(OneSkate x) {
        StringBuilder told = new StringBuilder();
        int people = x.about(2);
        for (int person = 0; person < people; person++) {
            told.append(x.person(person, 1)).append(' ').append(x.person(person, 4)).append(' ');
            told.append(x.person(person, 5)).append("; ");
        }
        return told.toString();
    }

    private static void glideBetweenEnds() {
        due.sentence("two of unlike FEET, both at one of its ends, come to the other end");
        OneSkate x = Due.townOf("N6C501sC231sPl091Pr091Pl091Pr191");
        due.is("glide from its lesser end", 1, x.glide(0, 1, 0));
        due.is("0 is at the other end", 5, x.person(0, 1));
        due.is("1 is at the other end", 5, x.person(1, 1));
        due.is("2 stays", 0, x.person(2, 1));
        due.is("glide from its greater end, told the other way", 1, x.glide(1, 0, 0));
        due.is("0 is at the lesser end", 0, x.person(0, 1));
        due.is("1 is at the lesser end", 0, x.person(1, 1));
        due.is("two left ones", BAD, x.glide(0, 2, 0));
        due.is("two right ones", BAD, x.glide(1, 3, 0));
        due.is("at no end of it", LATE, x.glide(0, 1, 1));
        due.is("the other one is at no end of it", LATE, x.glide(0, 3, 0));
        due.is("one is at no end of it", LATE, x.glide(3, 0, 0));
        x.push(1, 0);
        due.is("at either end of it", LATE, x.glide(0, 1, 0));
    }

    private static void glideMinutes() {
        due.sentence("it takes d times (10 less the PACE of the slower one) MINUTES");
        for (int d = 1; d <= 9; d += 4) {
            for (int left = 1; left <= 9; left += 2) {
                for (int right = 1; right <= 9; right += 4) {
                    String text = "N2C01" + d + "rPl0" + left + "1Pr0" + right + "1";
                    int want = d * (10 - Math.min(left, right));
                    due.is("glide in " + text, want, Due.townOf(text).glide(0, 1, 0));
                    due.is("glide the other way in " + text, want, Due.townOf(text).glide(1, 0, 0));
                }
            }
        }
        due.is("the least", 1, Due.townOf("N2C011sPl091Pr091").glide(0, 1, 0));
        due.is("the most", 81, Due.townOf("N2C019sPl011Pr091").glide(0, 1, 0));
    }

    private static void glideWears() {
        due.sentence("and as many more as the one is WORN whose FOOT the CANAL bends to; that one is WORN one more "
                + "then (9 at most).");
        OneSkate x = Due.townOf("N2C011lPl091Pr091Pl091Pr091");
        due.is("unworn", 1, x.glide(0, 1, 0));
        due.is("worn by the first", 2, x.glide(1, 0, 0));
        due.is("by another left one, unworn", 1, x.glide(2, 1, 0));
        due.is("0 is worn", 2, x.person(0, 5));
        due.is("1 is not, it has the right foot", 0, x.person(1, 5));
        due.is("2 is worn", 1, x.person(2, 5));
        due.is("3 is not, it stayed", 0, x.person(3, 5));
    }

    private static void glideByWhomItBends() {
        due.sentence("the one is WORN whose FOOT the CANAL bends to");
        String[] bends = {"l", "r", "s"};
        for (int bend = 0; bend < 3; bend++) {
            OneSkate x = Due.townOf("N3C011" + bends[bend] + "C021lC121rPl091Pr091");
            x.glide(0, 1, 1);
            x.glide(0, 1, 1);
            x.glide(0, 1, 1);
            x.glide(0, 1, 2);
            x.glide(0, 1, 0);
            // Now 0 is worn 3 and 1 is worn 1, and one more of them by the last glide.
            due.is("0 after " + bends[bend], bend == 0 ? 4 : 3, x.person(0, 5));
            due.is("1 after " + bends[bend], bend == 1 ? 2 : 1, x.person(1, 5));
            due.is("the next one takes", bend == 0 ? 5 : bend == 1 ? 3 : 1, x.glide(1, 0, 0));
        }
    }

    private static void wornNineAtMost() {
        due.sentence("that one is WORN one more then (9 at most)");
        for (int bend = 0; bend < 2; bend++) {
            OneSkate x = Due.townOf("N2C012" + "lr".charAt(bend) + "Pl081Pr091");
            for (int glide = 0; glide < 14; glide++) {
                due.is("worn before glide " + glide, Math.min(glide, 9), x.person(bend, 5));
                due.is("glide " + glide, 4 + Math.min(glide, 9), x.glide(0, 1, 0));
                due.is("worn after glide " + glide, Math.min(glide + 1, 9), x.person(bend, 5));
                due.is("the other one", 0, x.person(1 - bend, 5));
            }
            due.is("undo of one that was worn 9 and stayed so", 11, x.undo());
            due.is("it is worn 9", 9, x.person(bend, 5));
        }
    }

    private static void glideClocks() {
        due.sentence("Both CLOCKS are as the later one of them was, and those MINUTES.");
        for (int later = 0; later < 2; later++) {
            OneSkate x = Due.townOf("N2C013sPl071Pr081");
            x.push(later, 0);
            x.push(later, 0);
            int was = later == 0 ? 54 : 36;
            due.is("clock of the later one", was, x.person(later, 4));
            due.is("clock of the sooner one", 0, x.person(1 - later, 4));
            due.is("glide", 9, x.glide(0, 1, 0));
            due.is("clock of 0", was + 9, x.person(0, 4));
            due.is("clock of 1", was + 9, x.person(1, 4));
            due.is("when both are alike", 9, x.glide(1, 0, 0));
            due.is("clocks together", 2 * (was + 18), x.about(5));
        }
    }

    private static void push() {
        due.sentence("A PUSH: one alone likewise, three times d times (10 less its PACE) MINUTES; nobody is WORN by "
                + "it.");
        due.is("the least", 3, Due.townOf("N2C011sPl091").push(0, 0));
        due.is("the most", 243, Due.townOf("N2C019sPr111").push(0, 0));
        for (int bend = 0; bend < 3; bend++) {
            OneSkate x = Due.townOf("N6C254" + "lrs".charAt(bend) + "C011sPl271Pr231Pl071");
            x.glide(0, 1, 0);
            x.glide(0, 1, 0);
            int left = x.person(0, 5), right = x.person(1, 5);
            due.is("push from the lesser end", 36, x.push(0, 0));
            due.is("it is at the other end", 5, x.person(0, 1));
            due.is("the other one stays", 2, x.person(1, 1));
            due.is("push from the greater end, worn or not", 36, x.push(0, 0));
            due.is("it is at the lesser end", 2, x.person(0, 1));
            due.is("push of the right one", 84, x.push(1, 0));
            due.is("the left one is worn as before", left, x.person(0, 5));
            due.is("the right one is worn as before", right, x.person(1, 5));
            due.is("at no end of it", LATE, x.push(2, 0));
            due.is("at an end of this", 9, x.push(2, 1));
            due.is("its own clock alone", 9, x.person(2, 4));
        }
    }

    private static void twelveActs() {
        due.sentence("ACTS (GLIDES, PUSHES) are a row (12 at most; when it is full, the first one is forgotten); "
                + "the last one can be undone.");
        for (int acts = 10; acts <= 26; acts++) {
            OneSkate x = Due.townOf("N2C011sPl091Pr091");
            for (int i = 0; i < acts; i++) {
                x.push(0, 0);
                due.is("acts after " + (i + 1), Math.min(i + 1, 12), x.about(6));
            }
            int kept = Math.min(acts, 12);
            for (int left = kept - 1; left >= 0; left--) {
                due.is("undo of " + acts + " to " + left, left, x.undo());
            }
            due.is("the clock when no act is left of " + acts, 3 * (acts - kept), x.person(0, 4));
            due.is("where one is then", (acts - kept) % 2, x.person(0, 1));
            due.is("one undo more", LATE, x.undo());
            due.is("and it has changed nothing", 3 * (acts - kept), x.person(0, 4));
        }
    }

    private static void undoneOneByOne() {
        due.sentence("The last ACT is undone: how many are left.");
        OneSkate x = Due.townOf("N3C011lC121rC021sPl051Pr072Pl090Pr111");
        List<String> before = new ArrayList<>();
        int[][] acts = {{0, 1, 0}, {2, 2, 0}, {0, 1, 1}, {2, 3, 0}, {0, 0, 2}, {0, 3, 2}, {2, 2, 0}, {1, 2, 1},
                {1, 1, 1}, {2, 1, 0}, {1, 0, 0}, {0, 0, 1}, {3, 3, 0}, {3, 3, 2}, {3, 0, 1}, {2, 2, 0}};
        for (int[] act : acts) {
            String was = standing(x);
            int got = act[0] == act[1] ? x.push(act[0], act[2]) : x.glide(act[0], act[1], act[2]);
            if (got >= 0) {
                before.add(was);
            } else {
                due.holds("a refused one changes nothing", was.equals(standing(x)));
            }
        }
        int made = before.size();
        due.holds("more than twelve were made: " + made, made >= 12);
        for (int left = 11; left >= 0; left--) {
            due.is("undo", left, x.undo());
            due.holds("as it was before act " + (made - 12 + left), before.get(made - 12 + left).equals(standing(x)));
        }
        due.is("undo", LATE, x.undo());
    }

    private static void undoneToTheFirst() {
        due.sentence("LATE: there is none.");
        OneSkate x = Due.townOf(States.THREE);
        due.is("none at first", LATE, x.undo());
        x.glide(0, 1, 0);
        due.is("one", 0, x.undo());
        due.is("none", LATE, x.undo());
        x.push(0, 0);
        x.undo();
        x.push(1, 0);
        due.is("an act behind an undone one", 1, x.about(6));
        due.is("is undone alone", 0, x.undo());
        due.is("none again", LATE, x.undo());
        // Full, one undone, one more: nothing is forgotten by that one.
        for (int i = 0; i < 12; i++) {
            x.push(2, 0);
        }
        due.is("undo of twelve", 11, x.undo());
        x.push(2, 0);
        due.is("twelve", 12, x.about(6));
        for (int left = 11; left >= 0; left--) {
            due.is("undo to " + left, left, x.undo());
        }
        due.is("all are undone", 0, x.about(5));
    }

    private static void refusedIsNoAct() {
        due.sentence("What is refused changes nothing.");
        OneSkate x = Due.townOf("N2C011sPl091Pr091");
        x.write(1, 'x');
        for (int i = 0; i < 12; i++) {
            if (i > 0) {
                refusedActs(x);
            }
            x.push(0, 0);
            due.is("acts", i + 1, x.about(6));
        }
        x.undo();
        x.push(1, 0);
        x.undo();
        x.push(0, 0);
        due.is("twelve acts", 12, x.about(6));
        refusedActs(x);
        for (int left = 11; left >= 0; left--) {
            due.is("undo to " + left, left, x.undo());
        }
        due.is("nothing was forgotten", 0, x.about(5));
    }

    private static void refusedActs(OneSkate x) {
        due.is("glide by one", BAD, x.glide(0, 0, 0));
        due.is("glide along no canal", UNKNOWN, x.glide(0, 1, 1));
        due.is("push along no canal", UNKNOWN, x.push(1, 1));
        due.is("push of nobody", UNKNOWN, x.push(2, 0));
        due.is("again without a slot", LATE, x.again(0));
        due.is("town with a fault", LATE, x.town());
        if (x.person(0, 1) == 1) {
            due.is("glide from either end", LATE, x.glide(0, 1, 0));
        }
    }

    private static void slotsZeroAndOne() {
        due.sentence("SLOTS 0 .. 1 keep where PEOPLE are, CLOCKS, how WORN they are (no ACTS when one goes on).");
        OneSkate x = Due.townOf("N2C011sPl091Pr091");
        due.is("keep(-1)", UNKNOWN, x.keep(-1));
        due.is("again(-1)", UNKNOWN, x.again(-1));
        due.is("keep(2)", UNKNOWN, x.keep(2));
        due.is("again(2)", UNKNOWN, x.again(2));
        due.is("again(0)", LATE, x.again(0));
        due.is("again(1)", LATE, x.again(1));
        due.is("keep(0)", 0, x.keep(0));
        due.is("again(1): the other one", LATE, x.again(1));
        x.push(0, 0);
        due.is("keep(1)", 3, x.keep(1));
        x.push(1, 0);
        due.is("again(0)", 0, x.again(0));
        due.is("again(1)", 3, x.again(1));
        due.is("again(0) once more", 0, x.again(0));
    }

    private static void whatSlotsKeep() {
        due.sentence("They are kept: CLOCKS together.");
        OneSkate x = Due.townOf("N3C011lC121rPl051Pr072Pl090Pr081Pl070Pr031");
        x.glide(4, 5, 0);
        x.glide(5, 4, 1);
        x.push(0, 0);
        String was = standing(x);
        due.is("acts", 3, x.about(6));
        due.is("keep", x.about(5), x.keep(0));
        due.is("acts stay", 3, x.about(6));
        due.holds("nothing moved", was.equals(standing(x)));
        x.see(0, 1, true);
        x.seed(9);
        x.write(1, 'x');
        x.glide(1, 2, 0);
        x.glide(4, 5, 1);
        x.push(3, 0);
        due.sentence("They are as they were kept: CLOCKS together.");
        due.is("again", 7 + 7 + 7 + 7 + 15, x.again(0));
        due.holds("all stand as they were kept", was.equals(standing(x)));
        due.is("seen is not kept", 1, x.about(7));
        due.is("the seed is not kept", 9, x.seed(0));
        due.is("the text is not kept", 43, x.about(8));
    }

    private static void goneOnFrom() {
        due.sentence("(no ACTS when one goes on)");
        OneSkate x = Due.townOf(States.THREE);
        x.glide(0, 1, 0);
        x.keep(0);
        for (int i = 0; i < 13; i++) {
            x.push(2, 1);
        }
        due.is("acts before", 12, x.about(6));
        due.is("again", 20, x.again(0));
        due.is("no acts", 0, x.about(6));
        due.is("no undo", LATE, x.undo());
        due.is("the clocks stay", 20, x.about(5));
        x.push(2, 1);
        due.is("an act behind it", 0, x.undo());
        due.is("as it was gone on from", 20, x.about(5));
        due.is("again from where one is", 20, x.again(0));
    }

    private static void keptOver() {
        due.sentence("They are kept");
        OneSkate x = Due.townOf(States.THREE);
        due.is("keep(1)", 0, x.keep(1));
        x.glide(0, 1, 0);
        due.is("keep(1) over it", 20, x.keep(1));
        x.undo();
        due.is("undo takes nothing from what was kept", 20, x.again(1));
        x.glide(0, 1, 0);
        due.is("nor do acts behind again", 20, x.again(1));
        due.is("worn as kept", 1, x.person(0, 5));
        due.is("where they were kept", 1, x.person(0, 1));
    }
}
