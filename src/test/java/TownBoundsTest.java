/** The document's bounds of the text, its fault, the town that it tells: promises 1 to 8. */
public final class TownBoundsTest {
    private static final int UNKNOWN = -1, BAD = -2, LATE = -3, FULL = -4, NONE = -9;

    private static final Due due = new Due("TownBoundsTest");

    public static void main(String[] args) {
        newObject();
        writtenBytes();
        eightyBytes();
        wiped();
        headOfText();
        corners();
        sixPeople();
        eightCanals();
        partsInAnyOrder();
        canalsUnlike();
        canalsNotTwice();
        noCanalLeftToTell();
        everyByteOfCanal();
        everyByteOfPerson();
        firstFault();
        notAtItsEnd();
        lengthSetAside();
        madeAnew();
        keptIsGone();
        stays();
        aboutOfAll();
        personOfAll();
        canalOfAll();
        due.close();
    }

    private static int faultOf(String text) {
        OneSkate x = new OneSkate();
        Due.writeWide(x, text);
        return x.fault();
    }

    private static void fault(String text, int want) {
        due.is("fault of " + text, want, faultOf(text));
    }

    private static void newObject() {
        due.sentence("At first there are two CORNERS, nothing else.");
        OneSkate x = new OneSkate();
        due.is("corners", 2, x.about(0));
        for (int what = 1; what <= 8; what++) {
            due.is("about(" + what + ")", 0, x.about(what));
        }
        due.is("fault of no text", 0, x.fault());
        due.is("town of no text", LATE, x.town());
        due.is("an act to undo", LATE, x.undo());
        due.is("soonest of nobody", 0, x.soonest());
        due.is("by law of nobody", 0, x.byLaw());
        due.is("left alone of nobody: the matching without a pair", 1, x.leftAlone());
        due.is("fits of nobody", 1, x.fits());
        due.is("seen", 0, x.unsee());
        due.is("wiped", 0, x.wipe());
        due.is("slot 0", LATE, x.again(0));
        due.is("slot 1", LATE, x.again(1));
        due.is("seed", 0, x.seed(0));
        due.is("kept by nobody", 0, x.keep(1));
        due.is("gone on from by nobody", 0, x.again(1));
        due.is("another object's text is its own", 0, afterAnother().about(8));
    }

    private static OneSkate afterAnother() {
        OneSkate x = new OneSkate();
        Due.townOf(States.THREE).glide(0, 1, 0);
        return x;
    }

    private static void writtenBytes() {
        due.sentence("n bytes (1 .. 8) of v, the lowest n, the highest of these first, come behind THE TEXT: how "
                + "long it is.");
        String town = "N2C011sPl191";
        long[] above = {0, -1L, 0x5A5A5A5A5A5A5A5AL, Long.MIN_VALUE};
        for (int n = 1; n <= 8; n++) {
            for (long rest : above) {
                OneSkate x = new OneSkate();
                for (int i = 0; i < town.length(); i += n) {
                    int bytes = Math.min(n, town.length() - i);
                    long v = bytes == 8 ? 0 : rest << (8 * bytes);
                    for (int k = 0; k < bytes; k++) {
                        v |= (long) town.charAt(i + k) << (8 * (bytes - 1 - k));
                    }
                    due.is("write(" + bytes + ", " + v + ")", i + bytes, x.write(bytes, v));
                }
                due.is("the town that came by " + n, 1, x.town());
                due.is("its canal", 1, x.canal(0, 2));
                due.is("its pace", 9, x.person(0, 2));
            }
        }
        OneSkate x = new OneSkate();
        due.is("write(1, 0)", 1, x.write(1, 0));
        due.is("write(8, v) at 1", 9, x.write(8, Long.MAX_VALUE));
        due.is("BAD: write(0, v)", BAD, x.write(0, 0));
        due.is("BAD: write(9, v)", BAD, x.write(9, 0));
    }

    private static void eightyBytes() {
        due.sentence("THE TEXT is bytes (80 at most).");
        OneSkate x = new OneSkate();
        for (int i = 1; i <= 80; i++) {
            due.is("byte " + i, i, x.write(1, i));
        }
        due.is("byte 81", FULL, x.write(1, 0));
        due.is("how long it is", 80, x.about(8));
        due.sentence("FULL: it would be longer than 80 (nothing comes).");
        for (int n = 1; n <= 8; n++) {
            x = new OneSkate();
            Due.writeWide(x, "N3" + "Pl011".repeat(4) + "C011s".repeat(20).substring(0, 80 - n - 22));
            due.is("just inside: write(" + n + ") at " + (80 - n), 80, x.write(n, 0));
            x = new OneSkate();
            Due.writeWide(x, "N3" + "Pl011".repeat(4) + "C011s".repeat(20).substring(0, 80 - n - 21));
            due.is("just outside: write(" + n + ") at " + (81 - n), FULL, x.write(n, 0));
            due.is("nothing came", 81 - n, x.about(8));
            due.is("its fault is the same", 29, x.fault());
        }
        x = new OneSkate();
        Due.writeWide(x, "x".repeat(80));
        due.is("full", FULL, x.write(1, 'N'));
        due.is("wiped", 80, x.wipe());
        due.is("room again", 8, x.write(8, 0));
    }

    private static void wiped() {
        due.sentence("THE TEXT is empty: how long it was.");
        for (int bytes : new int[] {0, 1, 79, 80}) {
            OneSkate x = new OneSkate();
            Due.writeWide(x, "N".repeat(bytes));
            due.is("wipe of " + bytes, bytes, x.wipe());
            due.is("wipe of nothing", 0, x.wipe());
            due.is("bytes", 0, x.about(8));
            due.is("its fault is at its end", 0, x.fault());
            Due.write(x, "N2");
            due.is("what came before is not there", NONE, x.fault());
        }
        OneSkate x = States.rich();
        x.wipe();
        due.is("the town stays", 3, x.about(2));
        due.is("acts stay", 12, x.about(6));
        due.is("seen stays", 3, x.about(7));
        due.is("seed stays", 77, x.seed(0));
        due.is("slots stay", 20, x.again(0));
    }

    private static void headOfText() {
        due.sentence("A TOWN is a TEXT: N, n, then PARTS, none or more");
        for (int sign = 0; sign < 256; sign++) {
            fault("" + (char) sign, sign == 'N' ? 1 : 0);
            fault("N" + (char) sign, sign >= '2' && sign <= '6' ? NONE : 1);
            fault("N2" + (char) sign, sign == 'C' || sign == 'P' ? 3 : 2);
            fault("N2Pl011" + (char) sign, sign == 'C' || sign == 'P' ? 8 : 7);
            fault("N3C011s" + (char) sign, sign == 'C' || sign == 'P' ? 8 : 7);
        }
        due.is("no part: nobody", 0, Due.townOf("N2").about(2));
        due.is("no part: no canal", 0, Due.townOf("N6").about(1));
        due.is("N6: corners", 6, Due.townOf("N6").about(0));
    }

    private static void corners() {
        due.sentence("CORNERS are 0 .. n - 1 (n 2 ..");
        for (int n = 2; n <= 6; n++) {
            String head = "N" + n;
            int last = n - 1;
            due.is("corners of " + head, n, Due.townOf(head).about(0));
            fault(head + "C" + last, 4);
            fault(head + "C" + n, 3);
            fault(head + "C0" + last, 5);
            fault(head + "C0" + n, 4);
            fault(head + "C" + last + "0", 5);
            fault(head + "C/", 3);
            fault(head + "C0/", 4);
            fault(head + "Pl" + last, 5);
            fault(head + "Pl" + n, 4);
            fault(head + "Pl/", 4);
            fault(head + "Pl01" + last, NONE);
            fault(head + "Pl01" + n, 6);
            fault(head + "Pl01/", 6);
            OneSkate x = Due.townOf(head + "Pl010");
            due.is(head + ": alone to the last corner's self", 0, x.alone(0, last, last));
            due.is(head + ": alone to no corner", UNKNOWN, x.alone(0, 0, n));
            due.is(head + ": alone from no corner", UNKNOWN, x.alone(0, n, 0));
        }
    }

    private static void sixPeople() {
        due.sentence("6), PEOPLE 0, 1, .. (6 at most), CANALS 0, 1, .. (8 at most), sets of PEOPLE bits.");
        String part = "Pl011";
        for (int count = 0; count <= 6; count++) {
            String text = "N2" + part.repeat(count);
            OneSkate x = Due.townOf(text);
            due.is("people of " + text, count, x.about(2));
            due.is("bits of left feet", (1 << count) - 1, x.about(3));
            due.is("the one behind the last", UNKNOWN, x.person(count, 0));
            fault(text + "P", count < 6 ? text.length() + 1 : text.length());
            fault(text + part, count < 6 ? NONE : text.length());
        }
        fault("N2" + part.repeat(6) + "C011s", NONE);
        fault("N2" + part.repeat(3) + "C011s" + part.repeat(3), NONE);
        fault("N2" + part.repeat(3) + "C011s" + part.repeat(4), 37);
        due.is("the sixth one", 0, Due.townOf("N2" + part.repeat(5) + "Pr011").person(5, 0));
    }

    private static void eightCanals() {
        due.sentence("CANALS 0, 1, .. (8 at most)");
        String[] pairs = {"01", "02", "03", "04", "12", "13", "14", "23"};
        for (int n = 5; n <= 6; n++) {
            String text = "N" + n;
            for (int count = 0; count < 8; count++) {
                due.is("canals of " + text, count, Due.townOf(text).about(1));
                due.is("the one behind the last", UNKNOWN, Due.townOf(text).canal(count, 0));
                fault(text + "C", text.length() + 1);
                text += "C" + pairs[count] + (count + 1) + "s";
            }
            due.is("eight canals", 8, Due.townOf(text).about(1));
            due.is("the eighth one is 8 long", 8, Due.townOf(text).canal(7, 2));
            due.is("no ninth one", UNKNOWN, Due.townOf(text).canal(8, 0));
            fault(text + "C", 42);
            fault(text + "C241s", 42);
            fault(text + "P", 43);
            fault(text + "Pl011C", 47);
        }
    }

    private static void partsInAnyOrder() {
        due.sentence("PEOPLE and CANALS numbered as they are told");
        OneSkate x = Due.townOf("N4Pl011C231lPr122C013rPl233");
        for (int person = 0; person < 3; person++) {
            due.is("pace of " + person, person + 1, x.person(person, 2));
            due.is("corner of " + person, person, x.person(person, 1));
            due.is("goal of " + person, person + 1, x.person(person, 3));
        }
        due.is("left feet", 5, x.about(3));
        due.is("canal 0", 2, x.canal(0, 0));
        due.is("canal 1", 0, x.canal(1, 0));
        due.is("canal 1 is", 3, x.canal(1, 2));
    }

    private static void canalsUnlike() {
        due.sentence("a CANAL between CORNERS a and b (unlike, no two twice), d long (1 .. 9), that bends k: l, r, "
                + "or s (not)");
        for (int n = 2; n <= 6; n++) {
            for (int a = 0; a < n; a++) {
                for (int b = 0; b < n; b++) {
                    fault("N" + n + "C" + a + b + "1s", a == b ? 4 : NONE);
                }
            }
        }
    }

    private static void canalsNotTwice() {
        due.sentence("(unlike, no two twice)");
        for (int a = 0; a < 4; a++) {
            for (int b = 0; b < 4; b++) {
                if (a == b) {
                    continue;
                }
                String text = "N4C" + a + b + "1sPl011";
                fault(text + "C" + a + b, 14);
                fault(text + "C" + b + a, 14);
                for (int c = 0; c < 4; c++) {
                    if (c != a && c != b) {
                        fault(text + "C" + a + c + "1s", NONE);
                        fault(text + "C" + c + b + "1s", NONE);
                    }
                }
            }
        }
        fault("N2C011sPl011", NONE);
        fault("N4C011sC231sC321s", 14);
        fault("N4C011sC231sC101s", 14);
        fault("N4C011sC231sC121s", NONE);
    }

    /** Where every canal from a corner, or every canal, has been told, none can be told any more. */
    private static void noCanalLeftToTell() {
        due.sentence("FAULT: the place of the first byte by which THE TEXT can be no TOWN, whatever came behind it");
        fault("N2C011sC", 7);
        fault("N2C011sPl011C", 12);
        fault("N3C011sC0", 9);
        fault("N3C011sC021sC0", 13);
        fault("N3C011sC021sC1", 14);
        fault("N3C011sC021sC2", 14);
        fault("N3C011sC021sC12", 15);
        fault("N3C011sC021sC121s", NONE);
        fault("N3C011sC021sC121sC", 17);
        fault("N4C011sC121sC131sC1", 18);
        fault("N4C011sC121sC131sC0", 19);
        fault("N4C011sC021sC031sC121sC131sC", 28);
        fault("N4C011sC021sC031sC121sC131sC1", 28);
        fault("N4C011sC021sC031sC121sC131sC3", 29);
        fault("N4C011sC021sC031sC121sC131sC231sC", 32);
        fault("N5C101sC201sC301sC0", 19);
        fault("N5C101sC201sC301sC401sC0", 23);
        fault("N6C101sC201sC301sC401sC0", 24);
        fault("N6C101sC201sC301sC401sC501sC0", 28);
    }

    /** Every byte at one place of a part that is else a good one: only these may stand there. */
    private static void every(String text, int place, String good) {
        for (int sign = 0; sign < 256; sign++) {
            String other = text.substring(0, place) + (char) sign + text.substring(place + 1);
            int want = good.indexOf(sign) >= 0 ? NONE : place;
            due.is("fault with byte " + sign + " at " + place + " of " + text, want, faultOf(other));
        }
    }

    private static void everyByteOfCanal() {
        due.sentence("d long (1 .. 9), that bends k: l, r, or s (not)");
        String text = "N5C125lPl011";
        for (int sign = 0; sign < 256; sign++) {
            fault("N5C" + (char) sign, sign >= '0' && sign <= '4' ? 4 : 3);
        }
        every(text, 4, "0234");
        every(text, 5, "123456789");
        every(text, 6, "lrs");
        due.is("d of 1", 1, Due.townOf("N2C011l").canal(0, 2));
        due.is("d of 9", 9, Due.townOf("N2C019l").canal(0, 2));
        due.is("l", 1, Due.townOf("N2C019l").canal(0, 3));
        due.is("r", 2, Due.townOf("N2C019r").canal(0, 3));
        due.is("s", 0, Due.townOf("N2C019s").canal(0, 3));
    }

    private static void everyByteOfPerson() {
        due.sentence("a PERSON with a skate on FOOT f (l, r), at CORNER c, of PACE p (1 .. 9), that must go to "
                + "CORNER g, its GOAL");
        String text = "N4C125lPl213";
        every(text, 8, "lr");
        every(text, 9, "0123");
        every(text, 10, "123456789");
        every(text, 11, "0123");
        due.is("at its goal from the first", 1, Due.townOf("N4Pl212").about(4));
        due.is("pace 1", 1, Due.townOf("N4Pl212").person(0, 2));
        due.is("pace 9", 9, Due.townOf("N4Pl292").person(0, 2));
    }

    private static void firstFault() {
        due.sentence("the place of the first byte by which THE TEXT can be no TOWN");
        fault("x2C0x", 0);
        fault("N1C00", 1);
        fault("N2C0xPx", 4);
        fault("N2C011xC", 6);
        fault("N2Pl0001", 5);
        fault("N2C011sC011sPx", 7);
        due.sentence("whatever came behind it (its length set aside)");
        for (String text : new String[] {"x", "Nx", "N2x", "N2C00", "N2C010", "N2Px", "N2Pl011Cx"}) {
            OneSkate x = new OneSkate();
            Due.writeWide(x, text);
            int want = x.fault();
            due.is("it is its last byte", text.length() - 1, want);
            for (int i = 0; i < 60; i++) {
                x.write(1, "C011sPl011".charAt(i % 10));
            }
            due.is("fault of " + text + " and more", want, x.fault());
        }
    }

    private static void notAtItsEnd() {
        due.sentence("its length, if it is only not at its end; NONE: none.");
        String text = "N5C011lPl011C022rPr022C033sPl033C044lPr044C125rPl190C136sPr211C147lC238r";
        due.is("as long as a town can be", 72, text.length());
        for (int bytes = 0; bytes <= text.length(); bytes++) {
            boolean isWhole = bytes >= 2 && (bytes - 2) % 5 == 0;
            fault(text.substring(0, bytes), isWhole ? NONE : bytes);
        }
        due.is("all people of it", 6, Due.townOf(text).about(2));
        due.is("all canals of it", 8, Due.townOf(text).about(1));
    }

    private static void lengthSetAside() {
        due.sentence("(its length set aside)");
        String text = "N5C011lPl011C022rPr022C033sPl033C044lPr044C125rPl190C136sPr211C147lC238r";
        fault(text + "P", 72);
        fault(text + "C", 72);
        fault(text + "Pl011Pl0", 72);
        fault(text.substring(0, 72) + "xxxxxxxx", 72);
        fault("N6" + "Pl011".repeat(6) + "C".repeat(48), 33);
        fault("N".repeat(80), 1);
    }

    private static void madeAnew() {
        due.sentence("CLOCKS are 0, nobody is WORN at first, and when THE TOWN is made anew.");
        OneSkate x = Due.townOf("N2C011lPl091Pr091Pr011");
        for (int time = 0; time < 2; time++) {
            for (int person = 0; person < 3; person++) {
                due.is("corner of " + person, 0, x.person(person, 1));
                due.is("clock of " + person, 0, x.person(person, 4));
                due.is("worn is " + person, 0, x.person(person, 5));
            }
            due.is("clocks together", 0, x.about(5));
            due.is("acts", 0, x.about(6));
            due.is("undo", LATE, x.undo());
            x.glide(0, 1, 0);
            x.push(2, 0);
            due.is("the clocks are not 0", 1 + 1 + 27, x.about(5));
            due.is("one is worn", 1, x.person(0, 5));
            due.is("made anew", 3, x.town());
        }
        due.sentence("THE TEXT is THE TOWN (no ACTS; what was kept is gone; SEEN, THE SEED stay): how many PEOPLE.");
        for (int people = 0; people <= 6; people++) {
            x = new OneSkate();
            Due.writeWide(x, "N2" + "Pr111".repeat(people));
            due.is("town of " + people, people, x.town());
        }
        x = Due.townOf(States.SIX);
        x.wipe();
        due.is("LATE: an empty text has a fault", LATE, x.town());
        Due.write(x, "N2");
        due.is("a town of none behind one of six", 0, x.town());
        due.is("no left feet", 0, x.about(3));
        due.is("nobody at its goal", 0, x.about(4));
        due.is("no canal", UNKNOWN, x.canal(0, 0));
        due.is("nobody", UNKNOWN, x.person(0, 0));
    }

    private static void keptIsGone() {
        due.sentence("what was kept is gone");
        for (int slot = 0; slot < 2; slot++) {
            OneSkate x = Due.townOf(States.THREE);
            x.glide(0, 1, 0);
            due.is("keep(" + slot + ")", 20, x.keep(slot));
            x.town();
            due.is("again(" + slot + ") in the same town anew", LATE, x.again(slot));
            due.is("nothing has come back", 0, x.about(5));
        }
        OneSkate x = Due.townOf(States.THREE);
        x.glide(0, 1, 0);
        x.keep(0);
        x.write(1, 'x');
        due.is("a fault", LATE, x.town());
        due.is("what was kept is there when the town was not made", 20, x.again(0));
    }

    private static void stays() {
        due.sentence("SEEN, THE SEED stay");
        OneSkate x = Due.townOf(States.THREE);
        x.see(0, 1, true);
        x.see(2, 2, false);
        x.seed(Long.MIN_VALUE);
        due.is("town", 3, x.town());
        due.is("seen", 2, x.about(7));
        due.is("the seed", Long.MIN_VALUE, x.seed(0));
        due.is("the text", States.THREE.length(), x.about(8));
        due.is("what was seen of 2 fits nothing", 0, x.fits());
    }

    private static void aboutOfAll() {
        due.sentence("CORNERS (what = 0), CANALS (1), PEOPLE (2), who has the left FOOT (3: bits), who is at its "
                + "GOAL (4: bits), "
                + "CLOCKS together (5), ACTS (6), SEEN (7), bytes of THE TEXT (8). BAD.");
        OneSkate x = Due.townOf("N6C019lC129sPl010Pr011Pl010Pr015Pl015Pr010");
        x.glide(0, 1, 0);
        x.push(3, 0);
        x.see(0, 0, true);
        x.see(0, 1, true);
        x.see(5, 5, true);
        x.wipe();
        Due.write(x, "N2Px");
        int[] want = {6, 2, 6, 1 + 4 + 16, 2 + 4 + 32, 81 + 81 + 243, 2, 3, 4};
        due.is("about(-1)", BAD, x.about(-1));
        for (int what = 0; what < want.length; what++) {
            due.is("about(" + what + ")", want[what], x.about(what));
        }
        due.is("about(9)", BAD, x.about(9));
    }

    private static void personOfAll() {
        due.sentence("Of a PERSON 1 if it has the left FOOT (what = 0), CORNER (1), PACE (2), GOAL (3), CLOCK (4), "
                + "how WORN it is (5).");
        OneSkate x = Due.townOf("N6C451lPl010Pr125Pl234Pr343Pl452Pr461");
        x.glide(4, 5, 0);
        int[][] want = {{1, 0, 1, 0, 0, 0}, {0, 1, 2, 5, 0, 0}, {1, 2, 3, 4, 0, 0},
                {0, 3, 4, 3, 0, 0}, {1, 5, 5, 2, 5, 1}, {0, 5, 6, 1, 5, 0}};
        due.is("person(-1, 0)", UNKNOWN, x.person(-1, 0));
        for (int person = 0; person < 6; person++) {
            due.is("person(" + person + ", -1)", BAD, x.person(person, -1));
            for (int what = 0; what < 6; what++) {
                due.is("person(" + person + ", " + what + ")", want[person][what], x.person(person, what));
            }
            due.is("person(" + person + ", 6)", BAD, x.person(person, 6));
        }
        due.is("person(6, 0)", UNKNOWN, x.person(6, 0));
    }

    private static void canalOfAll() {
        due.sentence("Of a CANAL its lesser end (what = 0), its other end (1), how long it is (2), how it bends (3: "
                + "0 not, 1 left, 2 right).");
        OneSkate x = Due.townOf("N6C501sC152lC423rC234sC145lC036rC317sC438r");
        int[][] want = {{0, 5, 1, 0}, {1, 5, 2, 1}, {2, 4, 3, 2}, {2, 3, 4, 0}, {1, 4, 5, 1},
                {0, 3, 6, 2}, {1, 3, 7, 0}, {3, 4, 8, 2}};
        due.is("canal(-1, 0)", UNKNOWN, x.canal(-1, 0));
        for (int canal = 0; canal < 8; canal++) {
            due.is("canal(" + canal + ", -1)", BAD, x.canal(canal, -1));
            for (int what = 0; what < 4; what++) {
                due.is("canal(" + canal + ", " + what + ")", want[canal][what], x.canal(canal, what));
            }
            due.is("canal(" + canal + ", 4)", BAD, x.canal(canal, 4));
        }
        due.is("canal(8, 0)", UNKNOWN, x.canal(8, 0));
    }
}
