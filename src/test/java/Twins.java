import java.util.ArrayList;
import java.util.List;

/** Two objects made alike: a call that does nothing leaves them alike in all that can be asked of them. */
final class Twins {
    interface Maker {
        DownByAHair make();
    }

    interface Call {
        long on(DownByAHair x);
    }

    private Twins() { }

    /** The call is answered so, and nothing is done. */
    static void idle(String call, Maker maker, Call what, long answer) {
        DownByAHair called = maker.make();
        DownByAHair other = maker.make();
        Due.is(call, what.on(called), answer);
        alike("behind " + call, called, other);
    }

    /** Both are used up by this: steps are taken back, the image is gone back to, texts are played. */
    static void alike(String when, DownByAHair a, DownByAHair b) {
        List<String> one = answers(a);
        List<String> other = answers(b);
        for (int i = 0; i < Math.max(one.size(), other.size()); i++) {
            String got = i < one.size() ? one.get(i) : "nothing";
            String want = i < other.size() ? other.get(i) : "nothing";
            if (!got.equals(want)) {
                Due.tell(when + ": " + got + ", due is " + want);
                return;
            }
        }
    }

    private static List<String> answers(DownByAHair x) {
        List<String> found = new ArrayList<>();
        addSeen(x, found);
        addLaws(x, found);
        addStepsBack(x, found);
        addTape(x, found);
        found.add("back " + x.back());
        addSeen(x, found);
        addStepsBack(x, found);
        addTape(x, found);
        for (int text = 0; text < 2; text++) found.add("played " + text + " " + x.played(text) + " " + x.about(12));
        return found;
    }

    private static void addSeen(DownByAHair x, List<String> found) {
        for (int what = 0; what < 14; what++) found.add("about " + what + " " + x.about(what));
        for (int what = 0; what < 5; what++) found.add("now " + what + " " + x.now(what));
        for (int thing = 0; thing < x.about(0); thing++) {
            for (int what = 0; what < 4; what++) found.add("of " + thing + " " + what + " " + x.of(thing, what));
        }
        for (int what = 0; what < 3; what++) found.add("span " + what + " " + x.span(what));
        found.add("bent " + x.bent(7, 0) + " " + x.bent(7, 1));
        found.add("fault " + x.fault(0) + " " + x.fault(1));
    }

    private static void addLaws(DownByAHair x, List<String> found) {
        int ruling = x.about(8);
        for (int text = 0; text < x.about(7); text++) found.add("by " + text + " " + x.by(text) + " " + x.of(0, 4) + " " + x.now(4));
        x.by(ruling);
    }

    private static void addStepsBack(DownByAHair x, List<String> found) {
        int left = x.undo();
        for (int i = 0; i < 41 && left >= 0; i++) {
            found.add("undo " + left + " " + x.about(4) + " " + x.about(12) + " " + x.about(13));
            left = x.undo();
        }
    }

    private static void addTape(DownByAHair x, List<String> found) {
        found.add("text " + x.text() + " " + x.fault(0) + " " + x.fault(1) + " " + x.about(11) + " " + x.about(7));
    }
}
