/** The document's bounds of ways and matchings: promises 12 to 19. */
public final class MatchingBoundsTest {
    private static final int UNKNOWN = -1, BAD = -2, NONE = -9;
    /** Corner 2 is an island; 1 must go there. */
    private static final String ISLAND = "N3C011sPl011Pr012";
    /** As far apart as corners can be; all are as slow as can be. */
    private static final String FAR = "N6C019sC129sC239sC349sC459s";

    private static final Due due = new Due("MatchingBoundsTest");

    public static void main(String[] args) {
        noWay();
        zeroWay();
        leastWay();
        wornAllTheTime();
        toWhoseGoal();
        likeGoals();
        laterClock();
        noneInTwo();
        onlyAtOneCorner();
        likeSoonest();
        noSoonest();
        longestSoonest();
        worth();
        byLaw();
        leftAloneByLikeOnes();
        leftAloneOrAlone();
        leftAloneAndNone();
        asksIfSooner();
        takesIfSooner();
        asksTheLeast();
        asksAgain();
        askingOfNobody();
        due.close();
    }

    private static void mates(String text, int... want) {
        OneSkate x = Due.townOf(text);
        for (int person = 0; person < want.length; person++) {
            due.is("soonestWith(" + person + ") in " + text, want[person], x.soonestWith(person));
        }
    }

    private static void asking(String text, int... want) {
        OneSkate x = Due.townOf(text);
        for (int person = 0; person < want.length; person++) {
            due.is("asking(" + person + ") in " + text, want[person], x.asking(person));
        }
    }

    private static void leftAlone(String text, int want) {
        due.is("leftAlone in " + text, want, Due.townOf(text).leftAlone());
    }

    private static void noWay() {
        due.sentence("WAY of two of unlike FEET from one CORNER to another one: the least MINUTES of GLIDES; ALONE: "
                + "of PUSHES; "
                + "NONE: there is no way; 0 to where one is.");
        // 0, 1, 2 hang together, 3 and 4 do, 5 is by itself.
        OneSkate x = Due.townOf("N6C011sC121sC341sPl091Pr091");
        int[] part = {0, 0, 0, 1, 1, 2};
        for (int from = 0; from < 6; from++) {
            for (int to = 0; to < 6; to++) {
                int steps = part[from] == part[to] ? Math.abs(from - to) : -1;
                due.is("way from " + from + " to " + to, steps < 0 ? NONE : steps, x.way(0, 1, from, to));
                due.is("alone from " + from + " to " + to, steps < 0 ? NONE : 3 * steps, x.alone(1, from, to));
            }
        }
        x = Due.townOf("N2Pl091Pr091");
        due.is("no canal: way", NONE, x.way(0, 1, 0, 1));
        due.is("no canal: alone", NONE, x.alone(0, 1, 0));
        due.is("no canal: way to where one is", 0, x.way(0, 1, 1, 1));
    }

    private static void zeroWay() {
        due.sentence("0 to where one is");
        OneSkate x = Due.townOf(FAR + "Pl011Pr011Pl011");
        for (int corner = 0; corner < 6; corner++) {
            due.is("way at " + corner, 0, x.way(0, 1, corner, corner));
            due.is("alone at " + corner, 0, x.alone(1, corner, corner));
            due.is("of like feet", BAD, x.way(0, 2, corner, corner));
            due.is("of one", BAD, x.way(1, 1, corner, corner));
        }
        due.is("at no corner", UNKNOWN, x.way(0, 1, 6, 6));
        due.is("alone at no corner", UNKNOWN, x.alone(0, 6, 6));
        due.is("alone at corner -1", UNKNOWN, x.alone(0, -1, -1));
    }

    private static void leastWay() {
        due.sentence("the least MINUTES of GLIDES; ALONE: of PUSHES");
        OneSkate x = Due.townOf(FAR + "Pl011Pr011");
        due.is("the longest way", 5 * 81, x.way(0, 1, 0, 5));
        due.is("the longest way back", 5 * 81, x.way(1, 0, 5, 0));
        due.is("the longest alone", 5 * 243, x.alone(0, 0, 5));
        // A ring of six, 9 the one way and 5 the other way, told from its far side.
        x = Due.townOf("N6C451sC341sC231sC121sC011sC059sPl081Pr091");
        due.is("round by five", 5 * 2, x.way(0, 1, 0, 5));
        due.is("alone round by five", 3 * 5, x.alone(1, 5, 0));
        x = Due.townOf("N6C451sC341sC231sC121sC011sC054sPl081Pr091");
        due.is("straight by one", 4 * 2, x.way(0, 1, 0, 5));
        due.is("alone straight by one", 3 * 4, x.alone(1, 5, 0));
        // A push does not mind bends: straight 3, over the other corner 1 and 1.
        x = Due.townOf("N3C013sC021lC211lPl091Pr091");
        due.is("by unworn bends", 2, x.way(0, 1, 0, 1));
        x.glide(0, 1, 1);
        due.is("by bends worn 1: 2 and 2", 3, x.way(0, 1, 0, 1));
        due.is("from where two bends end", 2, x.way(0, 1, 2, 1));
        due.is("alone it is as it was", 6, x.alone(0, 0, 1));
    }

    private static void wornAllTheTime() {
        due.sentence("all are WORN as now all the time");
        OneSkate x = Due.townOf("N4C011lC121lC231lPl093Pr093");
        x.glide(0, 1, 0);
        x.glide(0, 1, 0);
        due.is("worn", 2, x.person(0, 5));
        due.is("three bends, worn 2 in each", 3 * 3, x.way(0, 1, 0, 3));
        due.is("soonest: clocks are 3, and 9", 12 + 12, x.soonest());
        due.is("worn as before", 2, x.person(0, 5));
        for (int i = 0; i < 8; i++) {
            x.glide(0, 1, 0);
        }
        due.is("worn 9 at most", 9, x.person(0, 5));
        due.is("three bends, worn 9 in each", 3 * 10, x.way(0, 1, 0, 3));
    }

    private static void toWhoseGoal() {
        due.sentence("to that one's GOAL by which both CLOCKS are least together in the end");
        // 0 is slow, 1 fast. To the goal of 0 they are 9; 1 alone is 3 more. To the goal of 1, 9, and 0 alone 27 more.
        due.is("the goal of the slow one, the lesser", 9 + 15, Due.townOf("N3C011sC021sPl011Pr092").soonest());
        due.is("the goal of the slow one, the greater", 9 + 15, Due.townOf("N3C011sC021sPl092Pr011").soonest());
        due.is("but alone it were", 27, Due.townOf("N3C011sPl011").soonest());
        // Both goals are one corner: none is alone at the end.
        due.is("one goal", 9 + 9, Due.townOf("N3C011sC021sPl011Pr091").soonest());
        due.is("one is there already", 0 + 3, Due.townOf("N2C011sPl010Pr091").soonest());
    }

    private static void likeGoals() {
        due.sentence("(of like ones to the GOAL of the one of lesser number)");
        // Any two: the one at 3, the other one at 6; alone 9. So 1 is sooner by 2, the greater one, than by 0.
        String text = "N3C013sC023sC121sPl091Pr092Pl091";
        asking(text, 0, 2, 1);
        leftAlone(text, 1);
        // The same with the feet the other way: 1 asks 2, by whom its own goal is the first.
        text = "N3C013sC023sC121sPr091Pl092Pr091";
        asking(text, 0, 2, 1);
        leftAlone(text, 1);
        // Were 1 alone between two lesser ones it would be last by both.
        asking("N3C013sC023sC121sPl091Pl091Pr092", 2, 1, 0);
    }

    private static void laterClock() {
        due.sentence("(A PAIR begins when the later one's CLOCK says so.)");
        for (int later = 0; later < 2; later++) {
            OneSkate x = Due.townOf("N3C011sC129sPl092Pr092");
            x.push(later, 0);
            x.push(later, 0);
            due.is("clock", 6, x.person(later, 4));
            due.is("both begin at 6", 2 * (6 + 10), x.soonest());
            due.is("they are a pair", 1 - later, x.soonestWith(later));
            x.push(later, 0);
            x.push(later, 0);
            x.push(later, 0);
            x.push(later, 0);
            due.is("both begin at 18, sooner than 30 and 48", 2 * (18 + 10), x.soonest());
            for (int i = 0; i < 4; i++) {
                x.push(later, 0);
            }
            due.is("at 30 it is 80; alone 30 and 60", 80, x.soonest());
            due.is("who waits would sooner go alone", 1, x.leftAlone());
            due.is("so none asks, or none takes", later, x.asking(later));
        }
    }

    private static void noneInTwo() {
        due.sentence("A MATCHING is a set of PAIRS, none in two.");
        int[] ofSix = {1, 6, 21, 34, 21, 6, 1};
        for (int left = 0; left <= 6; left++) {
            String text = "N2" + "Pl010".repeat(left) + "Pr010".repeat(6 - left);
            due.is("matchings of " + left + " left ones of six", ofSix[left], Due.townOf(text).fits());
            leftAlone(text, ofSix[left]);
        }
        due.is("of nobody: the one without a pair", 1, Due.townOf("N2").fits());
        due.is("of one", 1, Due.townOf("N2Pl010").fits());
        due.is("of two", 2, Due.townOf("N2Pl010Pr010").fits());
        due.is("of two like ones", 1, Due.townOf("N2Pl010Pl010").fits());
    }

    private static void onlyAtOneCorner() {
        due.sentence("A PAIR (two of unlike FEET, at one CORNER)");
        mates("N2C019sPl011Pr011", 1, 0);
        mates("N2C019sPl011Pl011", 0, 1);
        mates("N2C019sPl011Pr110", 0, 1);
        OneSkate x = Due.townOf("N3C011sC129sPl012Pr012");
        due.is("at one corner", 1, x.soonestWith(0));
        x.push(0, 0);
        due.is("at two corners", 0, x.soonestWith(0));
        due.is("fits when apart", 1, x.fits());
        due.is("none to leave for", 1, x.leftAlone());
        x.push(1, 0);
        due.is("at one corner, not where they began", 0, x.soonestWith(1));
        due.is("fits when together", 2, x.fits());
    }

    private static void likeSoonest() {
        due.sentence("of like ones PERSON 0 is with nobody rather than with PERSON 1, .., then PERSON 1 likewise, ..");
        mates("N2C011sPl010Pr010", 0, 1);
        mates("N2Pl010Pl010Pl010Pr010Pr010Pr010", 0, 1, 2, 3, 4, 5);
        mates("N2C011sPl011Pr011Pr011", 1, 0, 2);
        mates("N2C011sPr011Pl011Pr011", 0, 2, 1);
        mates("N2C011sPr011Pr011Pl011", 0, 2, 1);
        mates("N2C011sPr011Pr011Pr011Pl011", 0, 1, 3, 2);
        mates("N2C011sPl011Pl011Pr011Pr011", 2, 3, 0, 1);
        mates("N2C011sPl011Pr011Pl011Pr011", 1, 0, 3, 2);
        mates("N2C011sPl011Pr011Pr011Pl011Pr011", 1, 0, 2, 4, 3);
        mates("N2C011sPr011Pl011Pr011Pr011Pl011", 0, 2, 1, 4, 3);
        mates("N2C011sPl011Pl011Pl011Pr011Pr011Pr011", 3, 4, 5, 0, 1, 2);
        // 0 is elsewhere, and 1 is with 2 rather than with 3.
        mates("N2C011sPl111Pl011Pr011Pr011", 0, 2, 1, 3);
        // By 1 it is 9, 9 and 27, by 2 it is 9, 9 and 24: the least comes before what is liked.
        mates("N2C011sPl011Pr021Pr011", 2, 1, 0);
    }

    private static void noSoonest() {
        due.sentence("NONE: there is none.");
        OneSkate x = Due.townOf(ISLAND);
        due.is("soonest", NONE, x.soonest());
        due.is("soonestWith(0)", NONE, x.soonestWith(0));
        due.is("soonestWith(1)", NONE, x.soonestWith(1));
        due.is("soonestWith(2)", UNKNOWN, x.soonestWith(2));
        due.is("worth", NONE, x.worth(0));
        due.is("worth of the other one", NONE, x.worth(1));
        due.is("byLaw", NONE, x.byLaw());
        due.is("one of six cannot come", NONE, Due.townOf("N3C011sPl011Pr010Pl010Pr011Pl010Pr012").soonest());
        due.is("all of six can", 3, Due.townOf("N3C121sPl010Pr010Pl010Pr010Pl010Pr192").soonest());
        due.is("from an island", NONE, Due.townOf("N3C011sPl291").soonest());
        due.is("on an island", 0, Due.townOf("N3C011sPl292").soonest());
    }

    private static void longestSoonest() {
        due.sentence("THE SOONEST: the MATCHING by which all can come to their GOALS, and all CLOCKS in the end are "
                + "least together");
        String slow = "Pl015";
        due.is("six of one foot", 6 * 1215, Due.townOf(FAR + slow.repeat(6)).soonest());
        due.is("three of each", 6 * 405, Due.townOf(FAR + slow.repeat(3) + "Pr015".repeat(3)).soonest());
        OneSkate x = Due.townOf(FAR + "Pl015Pr015");
        for (int i = 0; i < 100; i++) {
            x.push(0, 0);
        }
        due.is("clocks far behind: each alone", 24300 + 1215 + 1215, x.soonest());
    }

    private static void worth() {
        due.sentence("WORTH of one's FOOT: THE SOONEST if it had the other FOOT, less THE SOONEST now, and 1000; "
                + "NONE: one of these is none.");
        due.is("all are there: 0 less 0", 1000, Due.townOf("N2C011sPl010Pr111").worth(0));
        due.is("alone, either foot", 1000, Due.townOf("N2C011sPl011").worth(0));
        due.is("a pair that it would lose", 1000 + 54 - 18, Due.townOf("N2C011sPl011Pr011").worth(1));
        due.is("a pair that it would make", 1000 + 18 - 54, Due.townOf("N2C011sPl011Pl011").worth(0));
        due.is("the most that it would lose", 1000 + 2430 - 810, Due.townOf(FAR + "Pl015Pr015").worth(0));
        due.is("the most that it would make: below 0", 1000 + 810 - 2430, Due.townOf(FAR + "Pr015Pr015").worth(1));
        due.is("worth of nobody", UNKNOWN, Due.townOf("N2C011sPl011").worth(1));
        // 0 changes its foot: then the bend is for 1 to bear, who is not worn.
        OneSkate x = Due.townOf("N2C011lPl090Pr091Pl011");
        x.glide(0, 1, 0);
        x.glide(0, 1, 0);
        due.is("soonest: 0 is there at 3, the others 12 and 12", 27, x.soonest());
        due.is("worth(1): it has none to go with", 3 + 6 + 27 - 27 + 1000, x.worth(1));
    }

    private static void byLaw() {
        due.sentence("BY LAW: the FEET (bits: who has the left one) by which THE SOONEST were least; of like ones "
                + "the least bits; NONE.");
        String[] texts = {"N2C011s", "N2C011sPl011", "N2C011sPl011Pl011", "N2C011sPr011Pl011Pl011",
            "N2C011sPl011Pl011Pr011Pl011", "N2C011sPr011Pr011Pr011Pr011Pr011", "N2C011sPl011Pl011Pl011Pl011Pl011Pl011"};
        int[] want = {0, 0, 1, 1, 3, 3, 7};
        for (int i = 0; i < texts.length; i++) {
            due.is("byLaw of " + texts[i], want[i], Due.townOf(texts[i]).byLaw());
        }
        due.is("no pair is any good", 0, Due.townOf("N2C011sPl010Pl110Pl010").byLaw());
        due.is("the last two are to go together", 16, Due.townOf("N2C011sPl010Pl010Pl010Pl010Pl011Pl011").byLaw());
        due.is("1 and 5 are", 2, Due.townOf("N2C011sPl010Pl011Pl010Pl010Pl010Pl011").byLaw());
        // Worn is 0, so that the bend is better borne by 1.
        OneSkate x = Due.townOf("N2C011lPl090Pr090");
        x.glide(0, 1, 0);
        due.is("who is not worn has the foot of the bend", 2, x.byLaw());
        due.is("the feet stay", 1, x.about(3));
        x = Due.townOf("N2C011rPr090Pl090");
        x.glide(0, 1, 0);
        due.is("and the other way", 1, x.byLaw());
        due.is("one cannot come", NONE, Due.townOf(ISLAND).byLaw());
    }

    private static void leftAloneByLikeOnes() {
        due.sentence("LEFT ALONE a MATCHING is, if no two that could be a PAIR both would sooner be at their GOALS "
                + "by that "
                + "(each by its own CLOCK in the end) than they are by the MATCHING, and nobody in a PAIR would "
                + "ALONE.");
        leftAlone("N2", 1);
        leftAlone("N2C011sPl011", 1);
        // Six like ones: each whole matching, of which there are 6; all others have two that would be a pair.
        leftAlone("N2C011sPl011Pl011Pl011Pr011Pr011Pr011", 6);
        leftAlone("N2C011sPl011Pr011Pr011", 2);
        leftAlone("N2C011sPl011Pr011Pr011Pr011Pr011Pr011", 5);
        // By the pace of 3, 0 is sooner than by that of 1 or 2; 3 is as soon by 0 as by nobody else.
        leftAlone("N2C011sPl031Pr011Pr021Pr031", 1);
        // 0 would sooner go with 3 (7 of 8), but 3 goes with 1 as soon: both have to be sooner.
        leftAlone("N2C011sPl031Pl031Pr021Pr031", 2);
    }

    private static void leftAloneOrAlone() {
        due.sentence("and nobody in a PAIR would ALONE");
        // 0 is at its goal alone at 3; by the pair at 2, 3, 4.
        leftAlone("N2C011sPl091Pr081", 1);
        leftAlone("N2C011sPl091Pr071", 2);
        leftAlone("N2C011sPl091Pr061", 1);
        due.is("sooner: they are a pair", 1, Due.townOf("N2C011sPl091Pr081").asking(0));
        due.is("later: they are none", 0, Due.townOf("N2C011sPl091Pr061").asking(0));
    }

    private static void leftAloneAndNone() {
        due.sentence("(NONE is later than all.)");
        // 1 never comes: by the pair 0 would not either, and is at 27 alone.
        leftAlone(ISLAND, 1);
        leftAlone("N3C011sPl012Pr011", 1);
        // Neither ever comes, and none of them is sooner by anything.
        leftAlone("N3C011sPl012Pr012", 2);
        // 2 goes with 0 as never as with nobody, and 1 goes with 0 sooner than alone.
        leftAlone("N3C011sPl011Pr011Pr012", 1);
        asking(ISLAND, 0, 1);
        asking("N3C011sPl012Pr012", 0, 1);
        asking("N3C011sPl011Pr012Pr011", 2, 1, 0);
    }

    private static void asksIfSooner() {
        due.sentence("the one with whom it is soonest at its GOAL (of like ones the least) of those that have not "
                + "refused it, "
                + "if it is sooner than ALONE");
        // 0 asks: at 3 alone, by the pair at 2, 3, 4. 1 would be glad each time.
        asking("N2C011sPl091Pr081", 1, 0);
        asking("N2C011sPl091Pr071", 0, 1);
        asking("N2C011sPl091Pr061", 0, 1);
        // The soonest of three, then the least of like ones.
        asking("N2C011sPl031Pr011Pr031Pr021", 2, 1, 0, 3);
        asking("N2C011sPl031Pr021Pr031Pr031", 2, 1, 0, 3);
        asking("N2C011sPr031Pr031Pl031", 2, 1, 0);
        // 1 is elsewhere, 2 has a like foot: neither can be asked.
        asking("N2C011sPl011Pr111Pl011Pr011", 3, 1, 2, 0);
    }

    private static void takesIfSooner() {
        due.sentence("who is asked takes that one, if that is sooner than ALONE, and sooner than by whom it is with "
                + "(else it refuses; whom it leaves was refused)");
        // 0 is asked: at 3 alone, by the pair at 2, 3, 4. 1 would be glad each time.
        asking("N2C011sPr091Pl081", 1, 0);
        asking("N2C011sPr091Pl071", 0, 1);
        asking("N2C011sPr091Pl061", 0, 1);
        // By 1 as soon as by 0: it stays. By 1 sooner: 0 is refused. By 1 later: 1 is refused.
        asking("N2C011sPl031Pl031Pr051", 2, 1, 0);
        asking("N2C011sPl031Pl041Pr051", 0, 2, 1);
        asking("N2C011sPl041Pl031Pr051", 2, 1, 0);
        // 0 refused by 3, who is sooner alone, asks 2.
        asking("N2C011sPl051Pl111Pr041Pr091", 2, 1, 0, 3);
    }

    private static void asksTheLeast() {
        due.sentence("those with left FEET ask, again and again the least one that is with nobody and can ask");
        // 0 asks 3; 1 asks 3, who leaves 0; now 0, not 2, asks 4, and 4 stays with 0 though 2 is as good.
        asking("N2C011sPl011Pl031Pl011Pr051Pr021", 4, 3, 2, 1, 0);
        asking("N2C011sPl011Pl011Pl011Pr011Pr011Pr011", 3, 4, 5, 0, 1, 2);
        // 0 is at 10 by 2 and by 3, 1 at 10 by 2 and at 8 by 3; 2 is at 25 by 0 and at 10 by 1, 3 at 10 by 0 and
        // at 20 by 1: were the right feet to ask, 2 would be with 1 and 3 with 0.
        String crosswise = "N3C012sC022sC121sPl051Pl062Pr052Pr061";
        asking(crosswise, 2, 3, 0, 1);
        leftAlone(crosswise, 2);
        asking(crosswise.replace('l', 'R').replace('r', 'l').replace('R', 'r'), 3, 2, 1, 0);
    }

    private static void asksAgain() {
        due.sentence("With whom each is in the end.");
        // 3 is taken by 0, then by 1, then by 2: each that is left asks 4, then 5.
        asking("N2C011sPl011Pl021Pl031Pr061Pr051Pr041", 5, 4, 3, 2, 1, 0);
        OneSkate x = Due.townOf("N2C011sPl011Pl021Pl031Pr061Pr051Pr041");
        due.is("asking changes nothing", 0, x.about(5) + x.about(6) + x.about(7));
        x = Due.townOf("N2C011sPl011Pr091");
        due.is("0 is refused", 0, x.asking(0));
        x.wipe();
        Due.writeWide(x, "N2C011sPl011Pr011");
        x.town();
        due.is("who was refused in another town asks in this one", 1, x.asking(0));
    }

    private static void askingOfNobody() {
        due.sentence("ASKING: with whom one is (itself: nobody). UNKNOWN.");
        asking("N2C011sPl011Pl011", 0, 1);
        asking("N2C011sPr011Pr011", 0, 1);
        asking("N2C011sPl011", 0);
        due.is("asking(1) of one", UNKNOWN, Due.townOf("N2C011sPl011").asking(1));
        due.is("asking(0) of none", UNKNOWN, new OneSkate().asking(0));
        OneSkate x = Due.townOf("N2C011sPl011Pr011");
        due.is("together", 1, x.asking(0));
        x.push(0, 0);
        due.is("0 is there: at another corner", 0, x.asking(0));
        due.is("and 1 is with nobody", 1, x.asking(1));
    }
}
