import java.util.ArrayList;
import java.util.List;

/**
 * All that can be seen of an object by its calls, the image too. Looking uses the object up: two
 * that were made alike are looked at, and what differs was changed. Some 300 calls.
 */
final class Sight {
    private final OneThread x;
    private final List<String> seen = new ArrayList<>();

    private Sight(OneThread x) {
        this.x = x;
    }

    static List<String> of(OneThread x) {
        Sight sight = new Sight(x);
        sight.tapeAndFault();
        sight.world();
        sight.note("image", x.image(false) ? 1 : 0);
        sight.world();
        return sight.seen;
    }

    private void note(String call, int answer) {
        seen.add(call + " -> " + answer);
    }

    /** The tape is read as a law, which comes back to what it was if there is a fault in it. */
    private void tapeAndFault() {
        for (int what = 0; what < 2; what++) note("fault " + what, x.fault(what));
        note("lines of the law", x.look(3));
        ways();
        note("feed", x.feed(0x20202020, 0x20202020, 0x20202020, 0x20202020, 0x20202020));
        note("text", x.text());
        for (int what = 0; what < 2; what++) note("fault " + what, x.fault(what));
        ways();
    }

    /** Where each thread may go by the law; what is wound is undone. */
    private void ways() {
        for (int t = 0; t < 3; t++) {
            for (int pin = 0; pin < 3; pin++) {
                int answer = x.winding(t, pin);
                note("winding " + t + " " + pin, answer);
                if (answer > 0) x.undo();
            }
        }
    }

    private void world() {
        looks();
        thoughts();
        undone();
        pictures();
        set();
    }

    private void looks() {
        for (int what = 0; what < 6; what++) note("look " + what, x.look(what));
        for (int what = 10; what < 13; what++) note("look " + what, x.look(what));
        int pins = x.look(1);
        for (int what = Math.max(20, 14 + pins); what < 20 + pins; what++) note("look " + what, x.look(what));
        for (int t = 0; t < 3; t++) {
            int many = x.wound(t, -1);
            note("wound " + t, many);
            for (int i = Math.max(0, many - 4); i < many; i++) note("wound " + t + " " + i, x.wound(t, i));
        }
        for (int i = 0; i < 4; i++) note("dark", x.dark(i % 2, i / 2));
    }

    private void thoughts() {
        for (int p = 0; p < 4; p++) note("far " + p, x.far(p));
        for (int t = 0; t < 3; t++) {
            note("next " + t, x.next(t, t, 0));
            note("gain " + t, x.next(t, t, 1));
            note("greedy " + t, x.greedy(t, t, 40, 1));
        }
        for (int what = 0; what < 3; what++) note("worst " + what, x.worst(0, what));
        for (int what = 0; what < 5; what++) note("thread " + what, x.thread(what));
        for (int i = 0; i < 3; i++) note("order " + i, x.order(i));
        for (int what = 0; what < 3; what++) note("back " + what, x.back(what));
        note("like", x.like());
        note("rule", x.rule(2, 1, 0));
        note("drawn", x.drawn(1, 1, 0, 0));
    }

    private void undone() {
        for (int i = 0; i < 41 && x.undo(); i++) {
            if (i < 6) for (int t = 0; t < 3; t++) note("wound " + t + " undone", x.wound(t, -1));
        }
    }

    /** What each square of two by two weighs and is wanted to be: FAR changes by it. */
    private void pictures() {
        for (int p = 0; p < 4; p++) {
            for (int i = 0; i < 4; i++) {
                x.want(p, i % 2, i / 2, 0);
                note("far " + p, x.far(p));
            }
        }
        for (int i = 0; i < 4; i++) {
            x.want(0, i % 2, i / 2, 999);
            note("far by the weight", x.far(0));
        }
    }

    private void set() {
        note("line 0 1", x.line(0, 1));
        note("line 0 2", x.line(0, 2));
        note("clear", x.clear());
        for (int i = 0; i < 4; i++) {
            x.line(i, i + 1);
            note("back", x.back(0));
            note("back", x.back(1));
        }
    }
}
