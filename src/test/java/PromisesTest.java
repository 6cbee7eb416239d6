/** Each promise of the document, by answers that were reckoned by hand: ordinary ones, edges, refusals. */
public final class PromisesTest {
    private static final int UNKNOWN = -1, BAD = -2, LATE = -3, FULL = -4, NONE = -9;

    /** Canals 0-1 (2, left) and 1-2 (3, right); 0: left at 0 to 1; 1: right at 0 to 2; 2: left at 1 to 0. */
    private static final String THREE = "N3C012lC123rPl051Pr072Pl190";
    /** All can be a pair with all of the other foot, at corner 0. */
    private static final String SIX = "N2C011sPl011Pl011Pl011Pr011Pr011Pr011";
    /** Corner 2 is an island; 1 must go there. */
    private static final String ISLAND = "N3C011sPl011Pr012";

    private static final Due due = new Due("PromisesTest");

    public static void main(String[] args) {
        promise1NewObject();
        promise2Write();
        promise3Wipe();
        promise4Fault();
        promise4FaultOfCanals();
        promise4FaultOfPeople();
        promise5Town();
        promise6About();
        promise7Person();
        promise8Canal();
        promise9Glide();
        promise9GlideRefused();
        promise10Push();
        promise11Undo();
        promise12Way();
        promise13Alone();
        promise14Soonest();
        promise15SoonestWith();
        promise16Worth();
        promise17ByLaw();
        promise18LeftAlone();
        promise19Asking();
        promise20See();
        promise21Unsee();
        promise22Fits();
        promise23May();
        promise24Waits();
        promise25HowLong();
        promise26Seed();
        promise27Winter();
        promise28Keep();
        promise29Again();
        due.close();
    }

    private static void promise1NewObject() {
        OneSkate x = new OneSkate();
        int[] about = {2, 0, 0, 0, 0, 0, 0, 0, 0};
        for (int what = 0; what < about.length; what++) {
            due.is("new: about(" + what + ")", about[what], x.about(what));
        }
        due.is("new: person(0, 0)", UNKNOWN, x.person(0, 0));
        due.is("new: canal(0, 0)", UNKNOWN, x.canal(0, 0));
        due.is("new: again(0)", LATE, x.again(0));
        due.is("new: seed", 0, x.seed(5));
    }

    private static void promise2Write() {
        OneSkate x = new OneSkate();
        due.is("write(0, 0)", BAD, x.write(0, 0));
        due.is("write(9, 0)", BAD, x.write(9, 0));
        due.is("write(MIN, 0)", BAD, x.write(Integer.MIN_VALUE, 0));
        due.is("write(MAX, 0)", BAD, x.write(Integer.MAX_VALUE, 0));
        due.is("write N2, the lowest two of -1 with them", 2, x.write(2, (-1L << 16) | 0x4E32));
        due.is("write N2: it is a town", NONE, x.fault());
        x.wipe();
        due.is("write all eight", 8, x.write(8, -1));
        due.is("write all eight: fault", 0, x.fault());
        for (int i = 2; i <= 9; i++) {
            due.is("write to " + 8 * i, 8L * i, x.write(8, 0));
        }
        due.is("write to 79", 79, x.write(7, 0));
        due.is("write(2) at 79", FULL, x.write(2, 0));
        due.is("write(8) at 79", FULL, x.write(8, 0));
        due.is("write(9) at 79: BAD is told first", BAD, x.write(9, 0));
        due.is("nothing came", 79, x.about(8));
        due.is("write to 80", 80, x.write(1, 0));
        due.is("write(1) at 80", FULL, x.write(1, 0));
    }

    private static void promise3Wipe() {
        OneSkate x = Due.townOf(THREE);
        due.is("wipe", THREE.length(), x.wipe());
        due.is("wipe again", 0, x.wipe());
        due.is("about(8) when wiped", 0, x.about(8));
        due.is("the town stays when the text is wiped", 3, x.about(2));
        due.is("what comes behind it begins anew", 1, x.write(1, 'N'));
        due.is("its fault", 1, x.fault());
    }

    private static void fault(String text, int want) {
        OneSkate x = new OneSkate();
        Due.write(x, text);
        due.is("fault of " + text, want, x.fault());
        long told = text.chars().filter(sign -> sign == 'P').count();
        due.is("town of " + text, want == NONE ? told : LATE, x.town());
        due.is("length of " + text, text.length(), x.about(8));
    }

    private static void promise4Fault() {
        fault("", 0);
        fault("n", 0);
        fault("N", 1);
        fault("N1", 1);
        fault("N2", NONE);
        fault("N6", NONE);
        fault("N7", 1);
        fault("N20", 2);
        fault("N2N2", 2);
        fault("N2\u00ff", 2);
        fault("N2c", 2);
        fault("N2 ", 2);
    }

    private static void promise4FaultOfCanals() {
        fault("N2C", 3);
        fault("N2C2", 3);
        fault("N6C5", 4);
        fault("N6C6", 3);
        fault("N2C00", 4);
        fault("N2C10", 5);
        fault("N2C100", 5);
        fault("N2C101", 6);
        fault("N2C10:", 5);
        fault("N2C109S", 6);
        fault("N2C109s", NONE);
        fault("N2C109sC", 7);
        fault("N2C109sP", 8);
        fault("N3C011sC1", 9);
        fault("N3C011sC10", 9);
        fault("N3C011sC12", 10);
        // Corner 0 is joined to all: no canal can begin there.
        fault("N3C011sC021sC0", 13);
        fault("N3C011sC021sC1", 14);
        fault("N3C011sC021sC10", 14);
        fault("N3C011sC021sC211s", NONE);
        fault("N3C011sC021sC211sC", 17);
        fault("N4C011sC021sC031sC2", 19);
        fault("N4C011sC021sC031sC121sC131s", NONE);
        fault("N4C011sC021sC031sC121sC131sC231s", NONE);
        fault("N4C011sC021sC031sC121sC131sC231sC", 32);
        String eight = "N5C011sC021sC031sC041sC121sC131sC141sC231s";
        fault(eight, NONE);
        fault(eight + "C", 42);
        fault(eight + "P", 43);
        fault("N5C011sC021sC031sC041sC121sC131sC0", 33);
    }

    private static void promise4FaultOfPeople() {
        fault("N2P", 3);
        fault("N2Ps", 3);
        fault("N2Pl2", 4);
        fault("N2Pl1", 5);
        fault("N2Pl10", 5);
        fault("N2Pl1:", 5);
        fault("N2Pl19/", 6);
        fault("N2Pl192", 6);
        fault("N2Pl191", NONE);
        fault("N2Pr010", NONE);
        String six = "N2Pl011Pl011Pl011Pl011Pl011Pl011";
        fault(six, NONE);
        fault(six + "P", 32);
        fault(six + "C", 33);
        String most = "N5C011sC021sC031sC041sC121sC131sC141sC231sPl011Pl011Pl011Pl011Pl011Pl011";
        fault(most, NONE);
        fault(most + "C", 72);
        fault(most + "P", 72);
        fault(most + "xxxxxxxx", 72);
    }

    private static void promise5Town() {
        OneSkate x = Due.townOf(THREE);
        x.glide(0, 1, 0);
        x.keep(0);
        x.keep(1);
        x.see(0, 1, true);
        x.seed(77);
        x.write(1, 'X');
        due.is("town with a fault", LATE, x.town());
        due.is("it changes nothing: acts", 1, x.about(6));
        due.is("it changes nothing: clocks", 20, x.about(5));
        due.is("it changes nothing: slots", 20, x.keep(0));
        x.wipe();
        Due.write(x, "N4C129rPr311Pr220");
        due.is("the town changes only by town()", 3, x.about(0));
        due.is("town", 2, x.town());
        due.is("corners", 4, x.about(0));
        due.is("no acts", LATE, x.undo());
        due.is("no slot 0", LATE, x.again(0));
        due.is("no slot 1", LATE, x.again(1));
        due.is("seen stays", 1, x.about(7));
        due.is("the seed stays", 77, x.seed(0));
        due.is("the text stays", 17, x.about(8));
        due.is("where 0 is", 3, x.person(0, 1));
        due.is("feet", 0, x.about(3));
        Due.write(x, "Pl011");
        due.is("the same text and one more", 3, x.town());
        x.push(1, 0);
        due.is("pushed", 216, x.about(5));
        due.is("made anew", 3, x.town());
        due.is("clocks are 0", 0, x.about(5));
        due.is("where 1 is again", 2, x.person(1, 1));
        x = Due.townOf(THREE);
        x.glide(0, 1, 0);
        due.is("worn", 1, x.person(0, 5));
        x.town();
        due.is("nobody is worn", 0, x.person(0, 5));
    }

    private static void promise6About() {
        OneSkate x = Due.townOf(THREE);
        int[] before = {3, 2, 3, 5, 0, 0, 0, 0, 27};
        for (int what = 0; what < before.length; what++) {
            due.is("about(" + what + ")", before[what], x.about(what));
        }
        x.glide(0, 1, 0);
        x.push(2, 0);
        x.see(1, 1, false);
        int[] after = {3, 2, 3, 5, 5, 26, 2, 1, 27};
        for (int what = 0; what < after.length; what++) {
            due.is("about(" + what + ") then", after[what], x.about(what));
        }
        due.is("about(9)", BAD, x.about(9));
        due.is("about(-1)", BAD, x.about(-1));
    }

    private static void promise7Person() {
        OneSkate x = Due.townOf(THREE);
        int[][] want = {{1, 0, 5, 1, 0, 0}, {0, 0, 7, 2, 0, 0}, {1, 1, 9, 0, 0, 0}};
        for (int person = 0; person < 3; person++) {
            for (int what = 0; what < 6; what++) {
                due.is("person(" + person + ", " + what + ")", want[person][what], x.person(person, what));
            }
        }
        x.glide(1, 0, 0);
        due.is("its corner", 1, x.person(0, 1));
        due.is("its clock", 10, x.person(0, 4));
        due.is("how worn", 1, x.person(0, 5));
        due.is("its goal stays", 1, x.person(0, 3));
        due.is("person(3, 0)", UNKNOWN, x.person(3, 0));
        due.is("person(-1, 9): UNKNOWN is told first", UNKNOWN, x.person(-1, 9));
        due.is("person(0, 6)", BAD, x.person(0, 6));
        due.is("person(0, -1)", BAD, x.person(0, -1));
    }

    private static void promise8Canal() {
        OneSkate x = Due.townOf("N4C312lC029r");
        int[][] want = {{1, 3, 2, 1}, {0, 2, 9, 2}};
        for (int canal = 0; canal < 2; canal++) {
            for (int what = 0; what < 4; what++) {
                due.is("canal(" + canal + ", " + what + ")", want[canal][what], x.canal(canal, what));
            }
        }
        due.is("canal(2, 0)", UNKNOWN, x.canal(2, 0));
        due.is("canal(-1, 9): UNKNOWN is told first", UNKNOWN, x.canal(-1, 9));
        due.is("canal(0, 4)", BAD, x.canal(0, 4));
        due.is("canal(0, -1)", BAD, x.canal(0, -1));
        due.is("a straight one", 0, Due.townOf("N2C019s").canal(0, 3));
    }

    private static void promise9Glide() {
        OneSkate x = Due.townOf(THREE);
        due.is("glide(0, 1, 0): 2 times (10 - 5)", 10, x.glide(0, 1, 0));
        due.is("the left one is worn", 1, x.person(0, 5));
        due.is("the right one is not", 0, x.person(1, 5));
        due.is("glide(1, 0, 1): 3 times 5, nobody right is worn", 15, x.glide(1, 0, 1));
        due.is("the right one is worn", 1, x.person(1, 5));
        due.is("the left one is not more so", 1, x.person(0, 5));
        due.is("both are at 2", 2, x.person(1, 1));
        due.is("glide(0, 1, 1) back", 16, x.glide(0, 1, 1));
        due.is("glide(0, 1, 0) back", 11, x.glide(0, 1, 0));
        due.is("the clock of 0", 52, x.person(0, 4));
        due.is("the clock of 1", 52, x.person(1, 4));
        x = Due.townOf(THREE);
        x.push(1, 0);
        x.push(0, 0);
        due.is("glide(0, 1, 1) when one is later", 15, x.glide(0, 1, 1));
        due.is("as the later one's clock", 45, x.person(1, 4));
        x = Due.townOf("N2C011rPl091Pr091");
        for (int i = 0; i < 13; i++) {
            due.is("glide " + i, 1 + Math.min(i, 9), x.glide(0, 1, 0));
        }
        due.is("worn 9 at most", 9, x.person(1, 5));
        due.is("who has the other foot is not worn", 0, x.person(0, 5));
        x = Due.townOf("N2C011sPl091Pr091");
        x.glide(0, 1, 0);
        due.is("no bend wears nobody", 0, x.person(0, 5) + x.person(1, 5));
    }

    private static void promise9GlideRefused() {
        OneSkate x = Due.townOf(THREE);
        due.is("glide(3, 1, 0)", UNKNOWN, x.glide(3, 1, 0));
        due.is("glide(0, -1, 0)", UNKNOWN, x.glide(0, -1, 0));
        due.is("glide(0, 0, 2): UNKNOWN is told first", UNKNOWN, x.glide(0, 0, 2));
        due.is("glide(0, 1, -1)", UNKNOWN, x.glide(0, 1, -1));
        due.is("glide(0, 0, 0): one", BAD, x.glide(0, 0, 0));
        due.is("glide(0, 2, 1): one foot, BAD is told first", BAD, x.glide(0, 2, 1));
        due.is("glide(0, 1, 1): no end of it", LATE, x.glide(0, 1, 1));
        due.is("glide(1, 2, 0): at either end", LATE, x.glide(1, 2, 0));
        due.is("no act", 0, x.about(6));
    }

    private static void promise10Push() {
        OneSkate x = Due.townOf(THREE);
        due.is("push(0, 0): 3 times 2 times 5", 30, x.push(0, 0));
        due.is("it is at 1", 1, x.person(0, 1));
        due.is("its clock", 30, x.person(0, 4));
        due.is("it is not worn", 0, x.person(0, 5));
        due.is("push(0, 0) back", 30, x.push(0, 0));
        due.is("it is at 0", 0, x.person(0, 1));
        due.is("push(3, 0)", UNKNOWN, x.push(3, 0));
        due.is("push(0, 2)", UNKNOWN, x.push(0, 2));
        due.is("push(-1, -1)", UNKNOWN, x.push(-1, -1));
        due.is("push(0, 1): no end of it", LATE, x.push(0, 1));
        x.glide(0, 1, 0);
        due.is("push(0, 0) by one that is worn takes no longer", 30, x.push(0, 0));
    }

    private static void promise11Undo() {
        OneSkate x = Due.townOf(THREE);
        due.is("undo of nothing", LATE, x.undo());
        x.push(1, 0);
        x.push(0, 0);
        x.glide(0, 1, 1);
        due.is("worn", 1, x.person(1, 5));
        due.is("undo the glide", 2, x.undo());
        due.is("not worn", 0, x.person(1, 5));
        due.is("clock of 0 as it was", 30, x.person(0, 4));
        due.is("clock of 1 as it was", 18, x.person(1, 4));
        due.is("where it was", 1, x.person(1, 1));
        due.is("undo a push", 1, x.undo());
        due.is("where 0 was", 0, x.person(0, 1));
        due.is("undo all", 0, x.undo());
        due.is("undo no more", LATE, x.undo());
        for (int i = 0; i < 15; i++) {
            x.push(2, 0);
        }
        due.is("12 acts at most", 12, x.about(6));
        for (int i = 11; i >= 0; i--) {
            due.is("undo to " + i, i, x.undo());
            due.is("the clock at " + i, 18 + 6 * i, x.person(2, 4));
        }
        due.is("the first ones are forgotten", LATE, x.undo());
        x = Due.townOf("N2C011lPl091Pr091");
        for (int i = 0; i < 12; i++) {
            x.glide(0, 1, 0);
        }
        x.undo();
        x.undo();
        x.undo();
        due.is("worn 9 before the tenth", 9, x.person(0, 5));
        x.undo();
        due.is("worn 8 before the ninth", 8, x.person(0, 5));
    }

    private static void promise12Way() {
        OneSkate x = Due.townOf(THREE);
        due.is("way(0, 1, 0, 2)", 25, x.way(0, 1, 0, 2));
        due.is("way(1, 0, 2, 0)", 25, x.way(1, 0, 2, 0));
        due.is("way(2, 1, 0, 2): where they are is all one", 15, x.way(2, 1, 0, 2));
        due.is("way(0, 1, 1, 1)", 0, x.way(0, 1, 1, 1));
        x.glide(0, 1, 0);
        due.is("way(0, 1, 0, 1) when worn", 11, x.way(0, 1, 0, 1));
        due.is("way(2, 1, 0, 1): the other left one is not", 6, x.way(2, 1, 0, 1));
        due.is("way(0, 3, 9, 9)", UNKNOWN, x.way(0, 3, 9, 9));
        due.is("way(0, 1, 3, 0)", UNKNOWN, x.way(0, 1, 3, 0));
        due.is("way(0, 1, 0, -1)", UNKNOWN, x.way(0, 1, 0, -1));
        due.is("way(0, 2, 0, 3): UNKNOWN is told first", UNKNOWN, x.way(0, 2, 0, 3));
        due.is("way(0, 2, 0, 0)", BAD, x.way(0, 2, 0, 0));
        due.is("way(1, 1, 0, 0)", BAD, x.way(1, 1, 0, 0));
        due.is("way to an island", NONE, Due.townOf(ISLAND).way(0, 1, 0, 2));
        // By the bend it is 4 minutes, over the other corner 2 times 3.
        x = Due.townOf("N3C014lC023sC213sPl091Pr091");
        for (int i = 0; i < 3; i++) {
            due.is("way by the bend, worn " + i, Math.min(4 + i, 6), x.way(0, 1, 0, 1));
            x.glide(0, 1, 0);
        }
        due.is("way over the other corner", 6, x.way(0, 1, 1, 0));
    }

    private static void promise13Alone() {
        OneSkate x = Due.townOf(THREE);
        due.is("alone(0, 0, 2)", 75, x.alone(0, 0, 2));
        due.is("alone(0, 2, 0)", 75, x.alone(0, 2, 0));
        due.is("alone(2, 1, 2)", 9, x.alone(2, 1, 2));
        due.is("alone(2, 2, 2)", 0, x.alone(2, 2, 2));
        x.glide(0, 1, 0);
        due.is("alone(0, 0, 2) when worn", 75, x.alone(0, 0, 2));
        due.is("alone(3, 0, 0)", UNKNOWN, x.alone(3, 0, 0));
        due.is("alone(0, 3, 0)", UNKNOWN, x.alone(0, 3, 0));
        due.is("alone(0, 0, -1)", UNKNOWN, x.alone(0, 0, -1));
        due.is("alone to an island", NONE, Due.townOf(ISLAND).alone(0, 0, 2));
        due.is("the shorter way round", 3 * 5, Due.townOf("N3C019lC023sC212sPl091").alone(0, 0, 1));
    }

    private static void promise14Soonest() {
        // Alone: 30, 45, 6. Together to the goal of 0: 10, and 10 + 27; to the goal of 1: 25, and 25 + 45.
        OneSkate x = Due.townOf(THREE);
        due.is("soonest", 10 + 37 + 6, x.soonest());
        due.is("nothing is changed", 0, x.about(5) + x.about(6));
        x.push(1, 0);
        x.push(1, 0);
        due.is("soonest when 1 is 36 later: alone", 30 + 81 + 6, x.soonest());
        x = Due.townOf("N3C011sC121sPl092Pr022");
        x.push(0, 0);
        x.push(0, 0);
        due.is("a pair begins when the later one's clock says so", 22 + 22, x.soonest());
        due.is("soonest of nobody", 0, new OneSkate().soonest());
        due.is("soonest with an island", NONE, Due.townOf(ISLAND).soonest());
        due.is("all are there", 0, Due.townOf("N2Pl010Pr111").soonest());
        due.is("six", 6 * 9, Due.townOf(SIX).soonest());
        // To 1 with the slow one is 9 and back alone is 3, to 0 is 0 and alone 27.
        due.is("to whose goal", 9 + 12, Due.townOf("N2C011sPl090Pr011").soonest());
        due.is("a pair that is no good is not made", 3, Due.townOf("N2C011sPl091Pr010").soonest());
    }

    private static void promise15SoonestWith() {
        OneSkate x = Due.townOf(THREE);
        due.is("soonestWith(0)", 1, x.soonestWith(0));
        due.is("soonestWith(1)", 0, x.soonestWith(1));
        due.is("soonestWith(2)", 2, x.soonestWith(2));
        due.is("soonestWith(3)", UNKNOWN, x.soonestWith(3));
        due.is("soonestWith(-1)", UNKNOWN, x.soonestWith(-1));
        due.is("soonestWith nobody there", UNKNOWN, new OneSkate().soonestWith(0));
        due.is("soonestWith with an island", NONE, Due.townOf(ISLAND).soonestWith(0));
        x = Due.townOf(SIX);
        for (int person = 0; person < 6; person++) {
            due.is("of like ones: " + person, (person + 3) % 6, x.soonestWith(person));
        }
        x = Due.townOf("N2C011sPl010Pr010");
        due.is("with nobody rather than with 1", 0, x.soonestWith(0));
        // One left among three like right ones, of whom one may go with it.
        x = Due.townOf("N2C011sPr011Pl011Pr011Pr011");
        due.is("0 is with nobody rather than with 1", 0, x.soonestWith(0));
        due.is("1 is with 2 rather than with 3", 2, x.soonestWith(1));
    }

    private static void promise16Worth() {
        OneSkate x = Due.townOf(THREE);
        due.is("worth(0): all alone else", 81 - 53 + 1000, x.worth(0));
        due.is("worth(1)", 1028, x.worth(1));
        due.is("worth(2)", 1000, x.worth(2));
        due.is("worth below 1000", 18 - 54 + 1000, Due.townOf("N2C011sPl011Pl011").worth(1));
        due.is("the feet stay", 5, x.about(3));
        due.is("worth(3)", UNKNOWN, x.worth(3));
        due.is("worth(-1)", UNKNOWN, x.worth(-1));
        due.is("worth with an island", NONE, Due.townOf(ISLAND).worth(0));
        // 0 and 1 are back at 0 by 3, 0 is worn 2; with the right foot 0 and 2 go by 3 + 5 + 2.
        x = Due.townOf("N3C011lC025rPl092Pr090Pl092");
        x.glide(0, 1, 0);
        x.glide(0, 1, 0);
        due.is("soonest: all alone", 18 + 3 + 15, x.soonest());
        due.is("worth(0): it is worn with the other foot too", 10 + 3 + 10 - 36 + 1000, x.worth(0));
    }

    private static void promise17ByLaw() {
        due.is("byLaw: 0 and 1 unlike", 1, Due.townOf(THREE).byLaw());
        due.is("byLaw of nobody", 0, new OneSkate().byLaw());
        due.is("byLaw with an island", NONE, Due.townOf(ISLAND).byLaw());
        due.is("byLaw of six: three left ones", 7, Due.townOf(SIX).byLaw());
        due.is("byLaw: all alone is as good", 0, Due.townOf("N2Pl010Pl010").byLaw());
        // The bend is to the left; 0 is worn, so that 1 had better have the left foot.
        OneSkate x = Due.townOf("N2C011lPl090Pr091");
        due.is("byLaw before", 0, x.byLaw());
        x = Due.townOf("N2C011lPl090Pr090");
        x.glide(0, 1, 0);
        due.is("byLaw when 0 is worn", 2, x.byLaw());
        due.is("soonest so", 3 + 3, x.soonest());
    }

    private static void promise18LeftAlone() {
        due.is("leftAlone: the pair", 1, Due.townOf(THREE).leftAlone());
        due.is("leftAlone of nobody", 1, new OneSkate().leftAlone());
        due.is("leftAlone of six like ones: all whole matchings", 6, Due.townOf(SIX).leftAlone());
        // 0 would come by 1 but 1 would never come: 0 is not left in that pair.
        due.is("leftAlone with an island", 1, Due.townOf(ISLAND).leftAlone());
        // Neither ever comes, together or not: nobody would leave the one or the other.
        due.is("leftAlone when none comes", 2, Due.townOf("N3C011sPl012Pr012").leftAlone());
        due.is("all are there: with somebody or not is all one", 2, Due.townOf("N2C011sPl010Pr010").leftAlone());
        // 0 is there at 9 by the pair, at 3 alone.
        due.is("one would alone", 1, Due.townOf("N2C011sPl091Pr011").leftAlone());
    }

    private static void promise19Asking() {
        OneSkate x = Due.townOf(THREE);
        due.is("asking(0)", 1, x.asking(0));
        due.is("asking(1)", 0, x.asking(1));
        due.is("asking(2)", 2, x.asking(2));
        due.is("asking(3)", UNKNOWN, x.asking(3));
        due.is("asking(-1)", UNKNOWN, x.asking(-1));
        due.is("asking with an island", 0, Due.townOf(ISLAND).asking(0));
        x = Due.townOf(SIX);
        for (int person = 0; person < 6; person++) {
            due.is("of like ones the least: " + person, (person + 3) % 6, x.asking(person));
        }
        // 0 asks 2 and is taken; 1 asks 2, who leaves 0 for it; 0 asks 3.
        x = Due.townOf("N2C011sPl011Pl031Pr051Pr021");
        int[] mates = {3, 2, 1, 0};
        for (int person = 0; person < 4; person++) {
            due.is("one is left: " + person, mates[person], x.asking(person));
        }
        // As soon by 0 as by 1 is 2, who stays with 0.
        due.is("none is left for a like one", 0, Due.townOf("N2C011sPl011Pl011Pr051").asking(2));
        due.is("who was refused is with nobody", 1, Due.townOf("N2C011sPl011Pl011Pr051").asking(1));
        due.is("no sooner than alone: none asks", 0, Due.townOf("N2C011sPl010Pr011").asking(0));
        due.is("who is asked is sooner alone", 0, Due.townOf("N2C011sPl011Pr091").asking(0));
    }

    private static void promise20See() {
        OneSkate x = Due.townOf(THREE);
        due.is("see(0, 3)", UNKNOWN, x.see(0, 3, true));
        due.is("see(-1, 0)", UNKNOWN, x.see(-1, 0, true));
        due.is("see(0, 2): one foot", 1, x.see(0, 2, false));
        due.is("see(0, 0)", 2, x.see(0, 0, false));
        for (int i = 3; i <= 8; i++) {
            due.is("see " + i, i, x.see(0, 1, true));
        }
        due.is("see a ninth", FULL, x.see(0, 1, true));
        due.is("see(3, 0) when full: UNKNOWN is told first", UNKNOWN, x.see(3, 0, true));
        due.is("about(7)", 8, x.about(7));
        due.is("see of nobody", UNKNOWN, new OneSkate().see(0, 0, true));
    }

    private static void promise21Unsee() {
        OneSkate x = Due.townOf(SIX);
        due.is("unsee nothing", 0, x.unsee());
        x.see(0, 3, true);
        x.see(1, 1, true);
        due.is("fits before", 3, x.fits());
        due.is("unsee", 2, x.unsee());
        due.is("unsee again", 0, x.unsee());
        due.is("fits all", 34, x.fits());
        due.is("see anew", 1, x.see(0, 0, true));
    }

    private static void promise22Fits() {
        due.is("fits of nobody", 1, new OneSkate().fits());
        OneSkate x = Due.townOf(SIX);
        due.is("fits", 34, x.fits());
        x.see(5, 0, true);
        due.is("0 with 5", 7, x.fits());
        x.see(1, 4, false);
        due.is("and 1 not with 4", 5, x.fits());
        x.see(2, 2, true);
        due.is("and 2 with nobody", 2, x.fits());
        x.see(1, 1, false);
        due.is("and 1 not with nobody", 1, x.fits());
        x.see(1, 3, false);
        due.is("and 1 not with 3", 0, x.fits());
        x = Due.townOf(SIX);
        x.see(0, 1, true);
        due.is("two of one foot were none", 0, x.fits());
        x = Due.townOf(SIX);
        x.push(0, 0);
        due.is("one is elsewhere", 13, x.fits());
        x = Due.townOf(THREE);
        x.see(0, 1, true);
        x.see(2, 2, false);
        x.see(0, 2, true);
        due.is("all of three", 0, x.fits());
        x.wipe();
        Due.write(x, "N2Pl010Pr010");
        x.town();
        due.is("2 is not there any more", 1, x.fits());
        x.wipe();
        Due.write(x, "N2Pl010");
        x.town();
        due.is("nor is 1", 1, x.fits());
        x.wipe();
        Due.write(x, THREE);
        x.town();
        due.is("they are there again", 0, x.fits());
    }

    private static void promise23May() {
        OneSkate x = Due.townOf(SIX);
        due.is("may(0)", 64 + 8 + 16 + 32, x.may(0));
        due.is("may(4)", 64 + 1 + 2 + 4, x.may(4));
        x.see(0, 3, true);
        due.is("may(0) with 3", 8, x.may(0));
        due.is("may(1) not with 3", 64 + 16 + 32, x.may(1));
        x.see(1, 1, false);
        x.see(1, 4, false);
        due.is("may(1)", 32, x.may(1));
        due.is("may(2)", 64 + 16, x.may(2));
        due.is("may(6)", UNKNOWN, x.may(6));
        due.is("may(-1)", UNKNOWN, x.may(-1));
        x.see(2, 2, true);
        x.see(2, 2, false);
        due.is("may(2) when nothing fits", 0, x.may(2));
    }

    private static void waits(int g, int h, int n, int x, long above, long below) {
        OneSkate skate = new OneSkate();
        String call = "waits(" + g + ", " + h + ", " + n + ", " + x + ")";
        due.is(call + " above", above, skate.waits(g, h, n, x, true));
        due.is(call + " below", below, skate.waits(g, h, n, x, false));
    }

    private static void promise24Waits() {
        waits(0, 0, 0, 0, 0, 1);
        waits(99, 99, 0, 10, 99, 1);
        waits(99, 99, 1, 10, 100, 1);
        waits(0, 99, 8, 0, 107, 1);
        waits(2, 9, 1, 5, 13, 2);
        // 0.3 times 5, 0.21 times 6, 0.49 times 12.
        waits(4, 10, 2, 3, 216, 25);
        waits(-1, 0, 0, 0, BAD, BAD);
        waits(100, 0, 0, 0, BAD, BAD);
        waits(0, -1, 0, 0, BAD, BAD);
        waits(0, 100, 0, 0, BAD, BAD);
        waits(0, 0, -1, 0, BAD, BAD);
        waits(0, 0, 9, 0, BAD, BAD);
        waits(0, 0, 0, -1, BAD, BAD);
        waits(0, 0, 0, 11, BAD, BAD);
    }

    private static void promise25HowLong() {
        OneSkate x = new OneSkate();
        due.is("howLong(5, 6, 10): like ones", 0, x.howLong(5, 6, 10));
        due.is("howLong(5, 7, 10): after one somebody came", 1, x.howLong(5, 7, 10));
        due.is("howLong(5, 7, 5): like ones", 0, x.howLong(5, 7, 5));
        due.is("howLong(5, 8, 5)", 8, x.howLong(5, 8, 5));
        due.is("howLong(0, 99, 0): nobody comes", 0, x.howLong(0, 99, 0));
        due.is("howLong(0, 11, 1)", 8, x.howLong(0, 11, 1));
        due.is("howLong(0, 10, 1)", 0, x.howLong(0, 10, 1));
        due.is("howLong(99, 0, 9)", 0, x.howLong(99, 0, 9));
        due.is("howLong(-1, 0, 0)", BAD, x.howLong(-1, 0, 0));
        due.is("howLong(100, 0, 0)", BAD, x.howLong(100, 0, 0));
        due.is("howLong(0, -1, 0)", BAD, x.howLong(0, -1, 0));
        due.is("howLong(0, 100, 0)", BAD, x.howLong(0, 100, 0));
        due.is("howLong(0, 0, -1)", BAD, x.howLong(0, 0, -1));
        due.is("howLong(0, 0, 11)", BAD, x.howLong(0, 0, 11));
    }

    private static void promise26Seed() {
        OneSkate x = new OneSkate();
        due.is("seed at first", 0, x.seed(Long.MIN_VALUE));
        due.is("seed", Long.MIN_VALUE, x.seed(-1));
        due.is("seed again", -1, x.seed(0));
    }

    private static void promise27Winter() {
        OneSkate x = new OneSkate();
        due.is("winter(0)", BAD, x.winter(0));
        due.is("winter(61)", BAD, x.winter(61));
        due.is("winter(-1)", BAD, x.winter(-1));
        due.is("what is refused changes no seed", 0, x.seed(0));
        due.is("winter(1): one alone", 0, x.winter(1));
        due.is("the seed then", 1442695040888963407L, x.seed(0));
        // 1442695040888963407 >>> 33 is 167951807, odd: the one that is born has the right foot.
        x = Due.townOf("N2Pl010Pl111");
        due.is("with one of the two left ones", 1, x.winter(1));
        x = Due.townOf("N2Pr010Pr111");
        due.is("with neither of two right ones", 0, x.winter(1));
        due.is("nobody new is there", 2, x.about(2));
        due.is("nobody moved", 0, x.about(5));
    }

    private static void promise28Keep() {
        OneSkate x = Due.townOf(THREE);
        due.is("keep(0)", 0, x.keep(0));
        x.glide(0, 1, 0);
        due.is("keep(1)", 20, x.keep(1));
        due.is("acts stay when kept", 0, x.undo());
        due.is("keep(2)", UNKNOWN, x.keep(2));
        due.is("keep(-1)", UNKNOWN, x.keep(-1));
        due.is("again(1) after the undo", 20, x.again(1));
        due.is("keep over it", 20, x.keep(0));
        due.is("again(0) is the newer", 20, x.again(0));
        due.is("keep of nobody", 0, new OneSkate().keep(0));
    }

    private static void promise29Again() {
        OneSkate x = Due.townOf(THREE);
        due.is("again(0) of nothing", LATE, x.again(0));
        due.is("again(2)", UNKNOWN, x.again(2));
        due.is("again(-1)", UNKNOWN, x.again(-1));
        x.glide(0, 1, 0);
        x.keep(1);
        due.is("again(0): the other slot", LATE, x.again(0));
        due.is("acts stay when again is refused", 1, x.about(6));
        x.glide(0, 1, 0);
        x.push(2, 1);
        due.is("again(1)", 20, x.again(1));
        due.is("no acts", 0, x.about(6));
        due.is("no undo", LATE, x.undo());
        due.is("where 0 is", 1, x.person(0, 1));
        due.is("how worn 0 is", 1, x.person(0, 5));
        due.is("where 2 is", 1, x.person(2, 1));
        due.is("the clock of 2", 0, x.person(2, 4));
        x.push(2, 1);
        due.is("again(1) once more", 20, x.again(1));
    }
}
