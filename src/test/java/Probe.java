import java.util.ArrayList;
import java.util.List;

/**
 * All that later calls tell of an object, as a row of answers, so that one object can be compared with another.
 * It uses the object up: acts are undone, slots gone on from, the text made the town.
 */
final class Probe {
    private final OneSkate skate;
    private final List<String> answers = new ArrayList<>();

    private Probe(OneSkate skate) {
        this.skate = skate;
    }

    static List<String> of(OneSkate skate) {
        Probe probe = new Probe(skate);
        probe.look();
        probe.guess();
        probe.goBack();
        probe.readText();
        return probe.answers;
    }

    private long note(String call, long answer) {
        answers.add(call + " answered " + answer);
        return answer;
    }

    private void look() {
        for (int what = 0; what <= 8; what++) {
            note("about(" + what + ")", skate.about(what));
        }
        for (int canal = 0; canal < skate.about(1); canal++) {
            for (int what = 0; what <= 3; what++) {
                note("canal(" + canal + ", " + what + ")", skate.canal(canal, what));
            }
        }
        for (int person = 0; person < skate.about(2); person++) {
            for (int what = 0; what <= 5; what++) {
                note("person(" + person + ", " + what + ")", skate.person(person, what));
            }
        }
        note("soonest()", skate.soonest());
    }

    private void guess() {
        note("fits()", skate.fits());
        for (int person = 0; person < skate.about(2); person++) {
            note("may(" + person + ")", skate.may(person));
        }
        note("winter(5)", skate.winter(5));
        note("seed(0)", skate.seed(0));
    }

    private void goBack() {
        for (int act = 0; act < 14; act++) {
            if (note("undo()", skate.undo()) >= 0) {
                stand();
            }
        }
        for (int slot = 0; slot < 2; slot++) {
            if (note("again(" + slot + ")", skate.again(slot)) >= 0) {
                stand();
            }
        }
    }

    private void stand() {
        for (int person = 0; person < skate.about(2); person++) {
            for (int what : new int[] {1, 4, 5}) {
                note("then person(" + person + ", " + what + ")", skate.person(person, what));
            }
        }
    }

    private void readText() {
        note("fault()", skate.fault());
        if (note("town()", skate.town()) >= 0) {
            look();
            note("fits()", skate.fits());
        }
        note("unsee()", skate.unsee());
    }
}
