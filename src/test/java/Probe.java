import java.util.ArrayList;
import java.util.List;

/** Asks one object for all that can be known of it; at the end IMAGES, SHEETS and THE TAPE are used up. */
final class Probe {
    private static final int[] OF_KIND = {0, 1, 10, 11, 20, 21, 30, 31};
    private final HouseTwins x;
    private final List<String> answers = new ArrayList<>();

    private Probe(HouseTwins x) {
        this.x = x;
    }

    /** Some 400 calls: who asks may have made 90 ahead, of the 512 that are promised. */
    static List<String> everything(HouseTwins x) {
        Probe p = new Probe(x);
        p.note("fault()", x.fault());
        p.note("torn()", x.torn());
        p.law();
        p.counts();
        p.scene();
        p.runs();
        p.wantsAndPast();
        p.sheets();
        for (int k = 0; k < 2; k++) {
            p.note("back(" + k + ")", x.back(k));
            p.counts();
            p.scene();
        }
        p.note("text()", x.text());
        p.note("fault() of it", x.fault());
        p.note("rule(2) of it", x.rule(2));
        return p.answers;
    }

    private void note(String call, long answer) {
        answers.add(call + " = " + answer);
    }

    private void law() {
        for (int what : new int[] {0, 1, 2, 3, 10, 11, 12, 13}) {
            note("rule(" + what + ")", x.rule(what));
        }
        for (int k = 0; k < 6; k++) {
            for (int what : OF_KIND) {
                note("kind(" + k + ", " + what + ")", x.kind(k, what));
            }
        }
        for (int c = 0; c < 4; c++) {
            note("colour(" + c + ")", x.colour(c));
        }
    }

    private void counts() {
        for (int what = 0; what <= 6; what++) {
            note("count(" + what + ")", x.count(what));
        }
    }

    private void scene() {
        int works = x.rule(3);
        for (int w = 0; w < works; w++) {
            for (int what = 0; what < 4; what++) {
                note("work(" + w + ", " + what + ")", x.work(w, what));
            }
        }
        things();
    }

    private void things() {
        int lots = x.rule(0);
        for (int i = 0; i < lots; i++) {
            note("thing(0, " + i + ")", x.thing(0, i));
            note("thing(1, " + i + ")", x.thing(1, i));
        }
    }

    private void runs() {
        for (int b = 0; b < 2; b++) {
            note("paid(24, " + b + ")", x.paid(24, b));
            note("owes(24, " + b + ")", x.owes(24, b));
        }
    }

    private void wantsAndPast() {
        for (int j = 0; j <= x.count(2); j++) {
            note("plan(1, 1" + j + ")", x.plan(1, 10 + j));
        }
        note("plan(1, 0)", x.plan(1, 0));
        note("cannot(0)", x.cannot(0));
        note("histories(23)", x.histories(23));
        for (int what = 0; what < 3; what++) {
            note("began(0, 23, " + what + ")", x.began(0, 23, what));
        }
    }

    /** What SHEETS hold can be known by reading alone, and then by what was put. */
    private void sheets() {
        for (int k = 0; k < 4; k++) {
            for (int lane = 0; lane < 3; lane++) {
                int came = x.read(k, lane, 0, 13);
                note("read(" + k + ", " + lane + ", 0, 13)", came);
                note("torn()", x.torn());
                if (came > 0) {
                    things();
                }
            }
        }
    }
}
