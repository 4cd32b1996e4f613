import java.util.ArrayList;
import java.util.List;

/** Two objects made alike: a call that does nothing leaves them alike in all that can be asked of them. */
final class Twins {
    interface Maker {
        DownByAHair make();
    }

    interface Call {
        long on(DownByAHair x);
    }

    private Twins() { }

    /** Of each kind of thing that is kept there is some, the image unlike what is now. */
    static DownByAHair furnished() {
        DownByAHair x = new DownByAHair();
        x.thing(40, 3);
        x.thing(25, 0);
        x.beam(4, 9, 30);
        Tape.read(x, "bears weight+sort*pan;");
        x.by(0);
        x.put(0, 1);
        x.reading(0, 0);
        x.image();
        x.thing(999, 9);
        x.thing(1, 1);
        x.thing(77, 5);
        x.beam(7, 3, 12);
        x.weather(22, 6, -4);
        Tape.read(x, "bears weight*2-wet;safe left<=2000 and right<=2500;put 4 on 0;wait 5;put 4 on 0;");
        x.by(1);
        x.put(1, 0);
        x.pass(3);
        x.put(2, 1);
        x.reading(1, 2);
        x.reading(0, 2);
        Tape.read(x, "bears 10000;");
        Tape.lay(x, "wait 7; take 0;");
        return x;
    }

    /** 12 things, 4 texts, 300 bytes, 40 steps, 10 readings; the image has fewer of each. */
    static DownByAHair full() {
        DownByAHair x = new DownByAHair();
        for (int i = 0; i < 6; i++) x.thing(i + 1, i);
        Tape.read(x, "bears weight+1;");
        Tape.read(x, "bears weight+2;");
        x.put(1, 1);
        x.image();
        for (int i = 6; i < 12; i++) x.thing(i + 1, i % 10);
        Tape.read(x, "bears weight+3;");
        Tape.read(x, "bears weight+4;");
        x.put(0, 0);
        for (int i = 2; i <= 40; i++) x.pass(i);
        for (int i = 0; i < 10; i++) x.reading(i % 2, 1 + i % 2);
        Tape.lay(x, longest());
        return x;
    }

    /** A text of 300 bytes that stands: its last one is needed. */
    static String longest() {
        return "bears 1" + "+1".repeat(146) + ";";
    }

    /** The call is answered so, and nothing is done. */
    static void idle(String call, Maker maker, Call what, long answer) {
        DownByAHair called = maker.make();
        DownByAHair other = maker.make();
        Due.is(call, what.on(called), answer);
        alike("behind " + call, called, other);
    }

    /** Both are used up by this: steps are taken back, the image is gone back to, texts are played. */
    static void alike(String when, DownByAHair a, DownByAHair b) {
        List<String> one = answers(a);
        List<String> other = answers(b);
        for (int i = 0; i < Math.max(one.size(), other.size()); i++) {
            String got = i < one.size() ? one.get(i) : "nothing";
            String want = i < other.size() ? other.get(i) : "nothing";
            if (!got.equals(want)) {
                Due.tell(when + ": " + got + ", due is " + want);
                return;
            }
        }
    }

    private static List<String> answers(DownByAHair x) {
        List<String> found = new ArrayList<>();
        addSeen(x, found);
        addLaws(x, found);
        addStepsBack(x, found);
        addTape(x, found);
        found.add("back " + x.back());
        addSeen(x, found);
        addStepsBack(x, found);
        addTape(x, found);
        for (int text = 0; text < 2; text++) found.add("played " + text + " " + x.played(text) + " " + x.about(12));
        return found;
    }

    private static void addSeen(DownByAHair x, List<String> found) {
        for (int what = 0; what < 14; what++) found.add("about " + what + " " + x.about(what));
        for (int what = 0; what < 5; what++) found.add("now " + what + " " + x.now(what));
        for (int thing = 0; thing < x.about(0); thing++) {
            for (int what = 0; what < 4; what++) found.add("of " + thing + " " + what + " " + x.of(thing, what));
        }
        for (int what = 0; what < 3; what++) found.add("span " + what + " " + x.span(what));
        found.add("bent " + x.bent(7, 0) + " " + x.bent(7, 1));
        found.add("fault " + x.fault(0) + " " + x.fault(1));
    }

    private static void addLaws(DownByAHair x, List<String> found) {
        int ruling = x.about(8);
        for (int text = 0; text < x.about(7); text++) found.add("by " + text + " " + x.by(text) + " " + x.of(0, 4) + " " + x.now(4));
        x.by(ruling);
    }

    private static void addStepsBack(DownByAHair x, List<String> found) {
        int left = x.undo();
        for (int i = 0; i < 41 && left >= 0; i++) {
            found.add("undo " + left + " " + x.about(4) + " " + x.about(12) + " " + x.about(13));
            left = x.undo();
        }
    }

    private static void addTape(DownByAHair x, List<String> found) {
        found.add("text " + x.text() + " " + x.fault(0) + " " + x.fault(1) + " " + x.about(11) + " " + x.about(7));
    }
}
