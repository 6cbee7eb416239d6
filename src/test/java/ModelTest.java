import java.util.Random;

/** Runs of calls by fixed seeds, each answer compared with the model's. */
public final class ModelTest {
    private static final int RUNS = 1000;
    private static final int STEPS = 150;
    /** What an object answers behind its 512th call is free; the longest step is a text told byte by byte. */
    private static final int MOST_CALLS = 512 - 100;

    private final Due due;
    private final Random random;
    private final int run;
    private final OneSkate skate = new OneSkate();
    private final Model model = new Model();
    private int calls;

    private ModelTest(Due due, int run) {
        this.due = due;
        this.run = run;
        this.random = new Random(run);
    }

    public static void main(String[] args) {
        Due due = new Due("ModelTest");
        for (int run = 0; run < RUNS && !due.isWrong(); run++) {
            new ModelTest(due, run).go();
        }
        due.close();
    }

    private void go() {
        tell(townText());
        for (int i = 0; i < STEPS && calls < MOST_CALLS; i++) {
            step();
        }
    }

    private void same(String call, long want, long got) {
        calls++;
        due.is("run " + run + " " + call, want, got);
    }

    private int upTo(int bound) {
        return random.nextInt(bound);
    }

    /** Mostly one that is there, at times one beside. */
    private int some(int count) {
        return upTo(20) == 0 ? upTo(count + 4) - 2 : upTo(Math.max(count, 1));
    }

    private int someone() {
        return some(model.about(2));
    }

    private int somewhere() {
        return some(model.about(0));
    }

    private int someCanal() {
        return some(model.about(1));
    }

    private void tell(String text) {
        same("wipe()", model.wipe(), skate.wipe());
        for (int i = 0; i < text.length();) {
            int n = Math.min(1 + upTo(8), text.length() - i);
            long v = upTo(2) == 0 ? random.nextLong() : 0;
            for (int k = 0; k < n; k++) {
                v = v << 8 | text.charAt(i + k);
            }
            same("write(" + n + ", " + v + ")", model.write(n, v), skate.write(n, v));
            i += n;
        }
        same("fault() of " + text, model.fault(), skate.fault());
        same("town() of " + text, model.town(), skate.town());
    }

    /** A town, or nearly one: few corners and like numbers, so that pairs, like ones and faults are frequent. */
    private String townText() {
        int n = 2 + upTo(5);
        StringBuilder text = new StringBuilder("N").append(n);
        int canals = upTo(Math.min(8, n * (n - 1) / 2) + 1);
        int people = upTo(7);
        boolean isTight = upTo(2) == 0;
        boolean[] joined = new boolean[36];
        for (int i = 0; i < canals; i++) {
            int a = upTo(n), b = upTo(n);
            boolean isFree = a != b && !joined[a * 6 + b] && !joined[b * 6 + a];
            if (isFree || upTo(30) == 0) {
                joined[a * 6 + b] = true;
                text.append('C').append(a).append(b).append(1 + upTo(isTight ? 2 : 9)).append("lrs".charAt(upTo(3)));
            }
        }
        for (int i = 0; i < people; i++) {
            int where = isTight ? 0 : upTo(Math.min(n, 3));
            text.append('P').append("lr".charAt(upTo(2))).append(where);
            text.append(isTight ? 8 + upTo(2) : 1 + upTo(9)).append(upTo(n));
        }
        return text.toString();
    }

    private String spoiltText() {
        StringBuilder text = new StringBuilder(townText());
        if (upTo(2) == 0) {
            text.setLength(upTo(text.length() + 1));
        }
        if (text.length() > 0 && upTo(3) > 0) {
            char sign = upTo(10) == 0 ? (char) upTo(256) : "NCPlrs0123456789".charAt(upTo(16));
            text.setCharAt(upTo(text.length()), sign);
        }
        if (text.length() < 75 && upTo(3) == 0) {
            text.append(townText().substring(2));
        }
        text.setLength(Math.min(text.length(), 80));
        return text.toString();
    }

    private void step() {
        int kind = upTo(100);
        if (kind < 40) {
            act();
        } else if (kind < 55) {
            look();
        } else if (kind < 80) {
            match();
        } else if (kind < 94) {
            guess();
        } else if (kind < 98) {
            slot();
        } else {
            tell(upTo(2) == 0 ? townText() : spoiltText());
        }
    }

    private void act() {
        int one = someone(), other = someone(), canal = someCanal();
        switch (upTo(6)) {
            case 0:
            case 1:
            case 2:
            case 3:
                same("glide(" + one + ", " + other + ", " + canal + ")", model.glide(one, other, canal),
                        skate.glide(one, other, canal));
                break;
            case 4:
                same("push(" + one + ", " + canal + ")", model.push(one, canal), skate.push(one, canal));
                break;
            default:
                same("undo()", model.undo(), skate.undo());
        }
        for (int person = 0; person < model.about(2); person++) {
            same("corner", model.person(person, 1), skate.person(person, 1));
            same("clock", model.person(person, 4), skate.person(person, 4));
            same("worn", model.person(person, 5), skate.person(person, 5));
        }
    }

    private void look() {
        int one = someone(), other = someone(), from = somewhere(), to = somewhere(), what = some(9);
        switch (upTo(6)) {
            case 0:
                same("about(" + what + ")", model.about(what), skate.about(what));
                break;
            case 1:
                same("person(" + one + ", " + what + ")", model.person(one, what), skate.person(one, what));
                break;
            case 2:
                same("canal(" + from + ", " + what + ")", model.canal(from, what), skate.canal(from, what));
                break;
            case 3:
            case 4:
                same("way(" + one + ", " + other + ", " + from + ", " + to + ")", model.way(one, other, from, to),
                        skate.way(one, other, from, to));
                break;
            default:
                same("alone(" + one + ", " + from + ", " + to + ")", model.alone(one, from, to),
                        skate.alone(one, from, to));
        }
    }

    private void match() {
        int one = someone();
        switch (upTo(9)) {
            case 0:
                same("soonest()", model.soonest(), skate.soonest());
                break;
            case 1:
            case 2:
                same("soonestWith(" + one + ")", model.soonestWith(one), skate.soonestWith(one));
                break;
            case 3:
                same("worth(" + one + ")", model.worth(one), skate.worth(one));
                break;
            case 4:
                if (upTo(8) == 0) {
                    same("byLaw()", model.byLaw(), skate.byLaw());
                }
                break;
            case 5:
            case 6:
                same("leftAlone()", model.leftAlone(), skate.leftAlone());
                break;
            default:
                same("asking(" + one + ")", model.asking(one), skate.asking(one));
        }
    }

    private void guess() {
        int one = someone(), other = someone();
        int g = some(100), h = some(100), n = some(9), x = some(11);
        boolean is = upTo(3) == 0;
        switch (upTo(9)) {
            case 0:
                same("see(" + one + ", " + other + ", " + is + ")", model.see(one, other, is),
                        skate.see(one, other, is));
                break;
            case 1:
                if (upTo(6) == 0) {
                    same("unsee()", model.unsee(), skate.unsee());
                }
                break;
            case 2:
                same("fits()", model.fits(), skate.fits());
                break;
            case 3:
            case 4:
                same("may(" + one + ")", model.may(one), skate.may(one));
                break;
            case 5:
                same("waits(" + g + ", " + h + ", " + n + ", " + x + ", " + is + ")", model.waits(g, h, n, x, is),
                        skate.waits(g, h, n, x, is));
                break;
            case 6:
                same("howLong(" + g + ", " + h + ", " + x + ")", model.howLong(g, h, x), skate.howLong(g, h, x));
                break;
            case 7:
                long v = random.nextLong();
                same("seed(" + v + ")", model.seed(v), skate.seed(v));
                break;
            default:
                int m = some(61);
                same("winter(" + m + ")", model.winter(m), skate.winter(m));
        }
    }

    private void slot() {
        int slot = some(2);
        if (upTo(2) == 0) {
            same("keep(" + slot + ")", model.keep(slot), skate.keep(slot));
        } else {
            same("again(" + slot + ")", model.again(slot), skate.again(slot));
        }
    }
}
