/** Objects in states in which a change would be seen: made anew, and always the same, by each call. */
final class States {
    /** Canals 0-1 (2, left) and 1-2 (3, right); 0: left at 0 to 1; 1: right at 0 to 2; 2: left at 1 to 0. */
    static final String THREE = "N3C012lC123rPl051Pr072Pl190";
    /** All can be a pair with all of the other foot, at corner 0. */
    static final String SIX = "N2C011sPl011Pl011Pl011Pr011Pr011Pr011";

    private States() {
    }

    static OneSkate fresh() {
        return new OneSkate();
    }

    /** Of three people: twelve acts and two forgotten, both slots, sights, a seed, the text of another town. */
    static OneSkate rich() {
        OneSkate x = Due.townOf(THREE);
        x.glide(0, 1, 0);
        x.keep(0);
        x.glide(1, 0, 1);
        x.push(2, 1);
        x.keep(1);
        for (int i = 0; i < 11; i++) {
            if (i % 3 == 2) {
                x.push(i % 2, 1);
                x.push(i % 2, 1);
            } else {
                x.glide(0, 1, 1);
            }
        }
        x.see(0, 1, false);
        x.see(2, 2, true);
        x.see(1, 1, false);
        x.seed(77);
        x.wipe();
        Due.writeWide(x, "N4C129rPr311Pr220Pl011C031l");
        return x;
    }

    /** The same with eight sights, and a text of 80 bytes that has a fault. */
    static OneSkate full() {
        OneSkate x = rich();
        for (int sight = 3; sight < 8; sight++) {
            x.see(0, 0, false);
        }
        for (int bytes = 27; bytes < 80; bytes++) {
            x.write(1, 'x');
        }
        return x;
    }

    /** No act, slot 0 empty, nothing seen, no text. */
    static OneSkate bare() {
        OneSkate x = Due.townOf(THREE);
        x.push(0, 0);
        x.keep(1);
        x.again(1);
        x.wipe();
        return x;
    }
}
