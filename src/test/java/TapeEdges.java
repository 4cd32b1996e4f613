/** Edges of the tape and of the texts that are read from it, as a number: promises 5 to 9. */
final class TapeEdges {
    private static final int MIN = Integer.MIN_VALUE;
    private static final int MAX = Integer.MAX_VALUE;

    private TapeEdges() { }

    static void run() {
        feed();
        bytesInTheirOrder();
        feedRefused();
        end();
        endKeepsTheFirst();
        endRefused();
        fourTexts();
        textWithFault();
        fifthText();
        fault();
        faultOfOthers();
        by();
        byRefused();
    }

    private static DownByAHair fed(int bytes) {
        DownByAHair x = new DownByAHair();
        for (int i = 0; i < 15; i++) x.feed(0x20202020, 0x20202020, 0x20202020, 0x20202020, 0x20202020);
        x.end(bytes);
        return x;
    }

    private static void feed() {
        Due.promise(5, "Twenty bytes come behind the tape, the highest of a first: how many it has.");
        DownByAHair x = new DownByAHair();
        for (int i = 1; i <= 15; i++) {
            Due.is("feed", x.feed(MIN, MAX, 0, -1, 1), 20 * i);
            Due.is("bytes", x.about(11), 20 * i);
        }
        for (int bytes : new int[] {0, 1, 19, 20, 279, 280}) Due.is("feed behind " + bytes, fed(bytes).feed(0, 0, 0, 0, 0), bytes + 20);
    }

    /** Blanks, and one sign that is no token: it is found at the place to which it was fed. */
    private static void bytesInTheirOrder() {
        Due.promise(5, "Twenty bytes come behind the tape, the highest of a first: how many it has.");
        for (int behind : new int[] {0, 7, 280}) {
            for (int place = 0; place < 20; place++) {
                int[] w = Tape.words(" ".repeat(place) + (char) 255 + " ".repeat(19 - place), 0);
                DownByAHair x = fed(behind);
                x.feed(w[0], w[1], w[2], w[3], w[4]);
                Due.is("text", x.text(), -1);
                Due.is("fault", x.fault(0), 1);
                Due.is("place", x.fault(1), behind + place);
            }
        }
    }

    private static void feedRefused() {
        Due.promise(5, "NONE, and none come, if there would be more than 300.");
        Twins.idle("feed of a full tape", Made::full, x -> x.feed(0, 0, 0, 0, 0), -1);
        for (int bytes : new int[] {281, 282, 299, 300}) {
            Twins.idle("feed behind " + bytes, () -> fed(bytes), x -> x.feed(0, 0, 0, 0, 0), -1);
        }
    }

    private static void end() {
        Due.promise(6, "The tape has its first n bytes alone: n.");
        Twins.idle("end 0 of an empty tape", DownByAHair::new, x -> x.end(0), 0);
        Twins.idle("end with all", Made::furnished, x -> x.end(15), 15);
        Twins.idle("end with all 300", Made::full, x -> x.end(300), 300);
        for (int n : new int[] {299, 281, 1, 0}) {
            DownByAHair x = fed(300);
            Due.is("end " + n, x.end(n), n);
            Due.is("bytes", x.about(11), n);
        }
    }

    private static void endKeepsTheFirst() {
        Due.promise(6, "The tape has its first n bytes alone: n.");
        DownByAHair x = new DownByAHair();
        x.thing(1, 0);
        Tape.lay(x, "bears 123;");
        x.end(8);
        int[] w = Tape.words(";", 0);
        Due.is("what comes is behind the first 8", x.feed(w[0], w[1], w[2], w[3], w[4]), 28);
        x.end(9);
        Due.is("bears 12;", x.text(), 0);
        x.by(0);
        Due.is("bears", x.of(0, 3), 12);
        cutOff(x, "bears hours;", 10, 10);
        cutOff(x, "wait 123;", 6, 6);
        cutOff(x, "bears 1<=2;", 8, 7);
        cutOff(x, " ".repeat(293) + "bears ;", 300 - 2, 298);
        Due.is("300 bytes, the last a letter", Tape.read(x, " ".repeat(290) + "bears hour"), -1);
        Due.is("at the end", x.fault(1), 300);
        Due.is("300 bytes, the last a digit", Tape.read(x, " ".repeat(290) + "bears 1234"), -1);
        Due.is("at the end", x.fault(1), 300);
        Tape.lay(x, "wait 1;wait 2;");
        x.end(13);
        Due.is("the last byte is cut off", x.text(), -1);
        Due.is("fault", x.fault(0), 1);
        Due.is("at the end", x.fault(1), 13);
    }

    /** What was cut off from a text is not read: it has fault 1 at this place. */
    private static void cutOff(DownByAHair x, String text, int n, int place) {
        Tape.lay(x, text);
        x.end(n);
        Due.is(text + " cut to " + n, x.text(), -1);
        Due.is("fault", x.fault(0), 1);
        Due.is("place", x.fault(1), place);
    }

    private static void endRefused() {
        Due.promise(6, "NONE, and nothing is done, if it has not so many, or n is below 0.");
        for (int n : new int[] {16, 17, 300, MAX, -1, -2, MIN}) {
            Twins.idle("end " + n, Made::furnished, x -> x.end(n), -1);
        }
        Twins.idle("end 1 of an empty tape", DownByAHair::new, x -> x.end(1), -1);
        Twins.idle("end -1 of an empty tape", DownByAHair::new, x -> x.end(-1), -1);
        Twins.idle("end 301", Made::full, x -> x.end(301), -1);
    }

    private static void fourTexts() {
        Due.term("==== II. TEXTS 0 .. 3: of up to 300 bytes.");
        DownByAHair x = new DownByAHair();
        x.thing(1, 0);
        String[] texts = {"", "bears 7;", Made.longest(), " ".repeat(290) + "bears 300;"};
        int[] borne = {1, 7, 147, 300};
        Due.promise(7, "The tape (empty then) is a TEXT: its number.");
        for (int i = 0; i < 4; i++) {
            Due.is("text " + i, Tape.read(x, texts[i]), i);
            Due.is("tape", x.about(11), 0);
            Due.is("texts", x.about(7), i + 1);
            Due.is("fault", x.fault(0), 0);
            Due.is("place", x.fault(1), -1);
        }
        for (int i = 0; i < 4; i++) {
            Due.is("by " + i, x.by(i), true);
            Due.is("bears by " + i, x.of(0, 3), borne[i]);
        }
        Due.is("the fifth", Tape.read(x, ""), -1);
        // an image with fewer texts makes room again, from its own number on
        x.back();
        Due.is("the first again", Tape.read(x, "bears 8;"), 0);
        x.thing(1, 0);
        x.by(0);
        Due.is("it rules", x.of(0, 3), 8);
    }

    /** All but the tape and the fault stays: of two texts with the same fault nothing else is left. */
    private static void textWithFault() {
        Due.promise(7, "NONE: it has a FAULT;");
        DownByAHair one = Made.furnished();
        DownByAHair other = Made.furnished();
        Due.is("text", Tape.read(one, "wait 1;bears left;"), -1);
        Due.is("the tape is empty", one.about(11), 0);
        Due.is("texts", one.about(7), 2);
        Due.is("fault", one.fault(0), 5);
        Due.is("place", one.fault(1), 13);
        Due.is("text", Tape.read(other, "wait 9;bears turned*hour;put 1 on 1;"), -1);
        Due.is("fault", other.fault(0), 5);
        Twins.alike("behind a fault", one, other);
        DownByAHair x = new DownByAHair();
        x.thing(1, 0);
        Tape.read(x, "bears 5;safe 1=2;wait 5;wait");
        Due.is("the next", Tape.read(x, "take 0;"), 0);
        x.by(0);
        Due.is("nothing is left of bears", x.of(0, 3), 1);
        Due.is("nothing is left of safe", x.now(4), 1);
        Due.is("nothing is left of wait", x.played(0), 0);
    }

    private static void fifthText() {
        Due.promise(7, "or (the tape stays) there are 4.");
        Twins.idle("a fifth text", Made::full, DownByAHair::text, -1);
        DownByAHair x = new DownByAHair();
        for (int i = 0; i < 4; i++) Tape.read(x, "");
        Tape.lay(x, "bears ");
        Due.is("a fifth text with a fault", x.text(), -1);
        Due.is("the tape stays", x.about(11), 6);
        Due.is("it was not read", x.fault(0), 0);
        x.back();
        Due.is("now it is", x.text(), -1);
        Due.is("fault", x.fault(0), 1);
        Due.is("at the end", x.fault(1), 6);
    }

    private static void fault() {
        Due.promise(8, "Of the latest text that was read: 0 its FAULT (0 without), 1 its place (NONE without).");
        DownByAHair x = new DownByAHair();
        Tape.read(x, "");
        Due.is("without", x.fault(0), 0);
        Due.is("without", x.fault(1), -1);
        Tape.read(x, "!");
        Due.is("fault", x.fault(0), 1);
        Due.is("the least place", x.fault(1), 0);
        String text = Made.longest();
        Tape.read(x, text.substring(0, 299) + " ");
        Due.is("fault", x.fault(0), 1);
        Due.is("the greatest place", x.fault(1), 300);
        Tape.read(x, text.substring(0, 299) + "!");
        Due.is("fault", x.fault(0), 1);
        Due.is("the last byte's place", x.fault(1), 299);
        Tape.read(x, text);
        Due.is("without again", x.fault(0), 0);
        Due.is("without again", x.fault(1), -1);
        Twins.idle("fault 0", Made::furnished, y -> y.fault(0), 2);
        Twins.idle("fault 1", Made::furnished, y -> y.fault(1), 6);
    }

    private static void faultOfOthers() {
        Due.promise(8, "NONE for others, and ahead of any.");
        for (int what : new int[] {-1, -2, 2, 3, MIN, MAX}) {
            Twins.idle("fault " + what, Made::furnished, x -> x.fault(what), -1);
            Due.is("fault " + what + " ahead of any", new DownByAHair().fault(what), -1);
        }
        DownByAHair x = new DownByAHair();
        x.feed(0, 0, 0, 0, 0);
        Due.is("0 ahead of any", x.fault(0), -1);
        Due.is("1 ahead of any", x.fault(1), -1);
    }

    private static void by() {
        Due.promise(9, "THE TEXT (NONE: none): true.");
        Twins.idle("by none where none is", DownByAHair::new, x -> x.by(-1) ? 1 : 0, 1);
        Twins.idle("by the one that rules", Made::furnished, x -> x.by(1) ? 1 : 0, 1);
        DownByAHair x = Made.full();
        for (int text : new int[] {0, 3, 1, 2}) {
            Due.is("by " + text, x.by(text), true);
            Due.is("the text", x.about(8), text);
            Due.is("bears", x.of(11, 3), 12 + 1 + text);
        }
        Due.is("by none", x.by(-1), true);
        Due.is("the text", x.about(8), -1);
        Due.is("bears its weight", x.of(11, 3), 12);
        Due.is("no step more", x.about(9), 40);
    }

    private static void byRefused() {
        Due.promise(9, "False for others.");
        for (int text : new int[] {-2, -3, 2, 3, 4, MIN, MAX}) {
            Twins.idle("by " + text, Made::furnished, x -> x.by(text) ? 1 : 0, 0);
        }
        Twins.idle("by 4 of 4", Made::full, x -> x.by(4) ? 1 : 0, 0);
        Twins.idle("by 0 where none is", DownByAHair::new, x -> x.by(0) ? 1 : 0, 0);
        DownByAHair x = Made.full();
        x.back();
        Due.is("a text that the image has not", x.by(2), false);
        Due.is("one that it has", x.by(1), true);
    }
}
