/** Edges of the image and the way back to it: promises 26 and 27. */
final class ImageEdges {
    private ImageEdges() { }

    static void run() {
        image();
        back();
        backToAll();
        butTheTapeAndTheFault();
        textsOfAnImage();
    }

    private static void image() {
        Due.promise(26, "THE IMAGE is as all is now: how many THINGS there are.");
        Due.is("of a new one", new DownByAHair().image(), 0);
        Due.is("of some", Made.furnished().image(), 5);
        Due.is("of a full one", Made.full().image(), 12);
        DownByAHair x = new DownByAHair();
        for (int i = 0; i < 12; i++) {
            x.thing(i + 1, 0);
            Due.is("image", x.image(), i + 1);
        }
        Due.is("the latest", x.back(), 12);
        // an image changes nothing but the image
        DownByAHair one = Made.furnished();
        one.image();
        for (int what = 0; what < 14; what++) Due.is("about " + what, one.about(what), Made.furnished().about(what));
        Due.is("the steps stay", one.undo(), 3);
    }

    private static void back() {
        Due.promise(27, "BACK to THE IMAGE (it stays): how many THINGS there are.");
        Due.is("of a new one", new DownByAHair().back(), 0);
        DownByAHair x = Made.furnished();
        Due.is("to fewer things", x.back(), 2);
        for (int i = 0; i < 3; i++) {
            Due.is("a new thing", x.thing(999, 9), 2);
            x.beam(1, 1, 1);
            x.undo();
            Due.is("it stays", x.back(), 2);
            Due.is("no third", x.of(2, 0), -2);
            Due.is("left arm", x.about(1), 4);
            Due.is("it lies again", x.of(0, 2), 1);
        }
        DownByAHair y = new DownByAHair();
        for (int i = 0; i < 12; i++) y.thing(5, 5);
        y.image();
        Due.is("to twelve", y.back(), 12);
        Due.is("they are", y.of(11, 1), 5);
        Twins.idle("back to what is", () -> {
            DownByAHair z = Made.furnished();
            z.image();
            return z;
        }, DownByAHair::back, 5);
    }

    /** All that can be changed is, and then the tape and the fault are made as they were. */
    private static void changeAll(DownByAHair x, String tape) {
        x.beam(2, 2, 2);
        x.weather(2, 2, 2);
        x.by(-1);
        for (int i = 0; i < 12; i++) {
            x.take(i);
            x.put(i, i % 2);
        }
        x.undo();
        x.pass(7);
        x.forget();
        for (int i = 0; i < 10; i++) x.reading(1 - i % 2, i % 3);
        for (int i = 0; i < 12; i++) x.thing(500 + i, 2);
        Tape.read(x, "bears 1;safe 1=2;wait 5;");
        x.by(x.about(7) - 1);
        Tape.read(x, "bears 10000;");
        Tape.lay(x, tape);
    }

    private static void backToAll() {
        Due.term("AN IMAGE: all as it is, but the tape and the latest FAULT. BACK: all is so again.");
        DownByAHair changed = Made.furnished();
        changed.image();
        changeAll(changed, "wait 7; take 0;");
        Due.is("back", changed.back(), 5);
        DownByAHair left = Made.furnished();
        left.image();
        Twins.alike("back to some", changed, left);

        DownByAHair full = Made.full();
        full.image();
        // four texts are there: no text is read, so the fault stays
        changeAll(full, Made.longest());
        Due.is("back", full.back(), 12);
        DownByAHair whole = Made.full();
        whole.image();
        Twins.alike("back to a full one", full, whole);
    }

    private static void butTheTapeAndTheFault() {
        Due.term("AN IMAGE: all as it is, but the tape and the latest FAULT.");
        DownByAHair x = new DownByAHair();
        Tape.lay(x, "wait 1;");
        x.back();
        Due.is("the tape stays", x.about(11), 7);
        x.image();
        x.end(6);
        x.back();
        Due.is("the tape stays", x.about(11), 6);
        Due.is("its bytes", x.text(), -1);
        Due.is("fault", x.fault(0), 1);
        Due.is("place", x.fault(1), 6);
        x.back();
        Due.is("the fault stays", x.fault(0), 1);
        Due.is("the place stays", x.fault(1), 6);
        Due.is("the tape stays empty", x.about(11), 0);
        x.image();
        Tape.read(x, "");
        x.back();
        Due.is("the latest fault", x.fault(0), 0);
        Due.is("the latest place", x.fault(1), -1);
    }

    private static void textsOfAnImage() {
        Due.term("BACK: all is so again.");
        DownByAHair x = new DownByAHair();
        x.thing(1, 0);
        Tape.read(x, "bears 10;wait 1;");
        Tape.read(x, "bears 20;wait 2;");
        x.by(1);
        x.image();
        for (int round = 0; round < 3; round++) {
            Due.is("a third", Tape.read(x, "bears 3" + round + ";wait 3;"), 2);
            Due.is("a fourth", Tape.read(x, "bears 4" + round + ";wait 4;"), 3);
            x.by(3);
            Due.is("the fourth rules", x.of(0, 3), 40 + round);
            x.back();
            Due.is("texts", x.about(7), 2);
            Due.is("the second rules", x.about(8), 1);
            Due.is("it bears", x.of(0, 3), 20);
            Due.is("the third is none", x.by(2), false);
            x.by(0);
            Due.is("the first bears", x.of(0, 3), 10);
            Due.is("the second is played", x.played(1), -1);
            Due.is("its hours", x.about(4), 2);
            x.back();
        }
    }
}
