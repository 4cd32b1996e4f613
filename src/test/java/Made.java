/** Objects as the edge tests want them. */
final class Made {
    private Made() { }

    static DownByAHair withThings(int... weights) {
        DownByAHair x = new DownByAHair();
        for (int weight : weights) x.thing(weight, 0);
        return x;
    }

    /** With things, and by a text that rules. */
    static DownByAHair ruled(String text, int... weights) {
        DownByAHair x = withThings(weights);
        Due.is("read " + text, Tape.read(x, text), 0);
        Due.is("rule " + text, x.by(0), true);
        return x;
    }

    /** Of each kind of thing that is kept there is some, the image unlike what is now. */
    static DownByAHair furnished() {
        DownByAHair x = new DownByAHair();
        x.thing(40, 3);
        x.thing(25, 0);
        x.beam(4, 9, 30);
        Tape.read(x, "bears weight+sort*pan;");
        x.by(0);
        x.put(0, 1);
        x.reading(0, 0);
        x.image();
        x.thing(999, 9);
        x.thing(1, 1);
        x.thing(77, 5);
        x.beam(7, 3, 12);
        x.weather(22, 6, -4);
        Tape.read(x, "bears weight*2-wet;safe left<=2000 and right<=2500;put 4 on 0;wait 5;put 4 on 0;");
        x.by(1);
        x.put(1, 0);
        x.pass(3);
        x.put(2, 1);
        x.reading(1, 2);
        x.reading(0, 2);
        Tape.read(x, "bears 10000;");
        Tape.lay(x, "wait 7; take 0;");
        return x;
    }

    /** 12 things, 4 texts, 300 bytes, 40 steps, 10 readings; the image has fewer of each. */
    static DownByAHair full() {
        DownByAHair x = new DownByAHair();
        for (int i = 0; i < 6; i++) x.thing(i + 1, i);
        Tape.read(x, "bears weight+1;");
        Tape.read(x, "bears weight+2;");
        x.put(1, 1);
        x.image();
        for (int i = 6; i < 12; i++) x.thing(i + 1, i % 10);
        Tape.read(x, "bears weight+3;");
        Tape.read(x, "bears weight+4;");
        x.put(0, 0);
        for (int i = 2; i <= 40; i++) x.pass(i);
        for (int i = 0; i < 10; i++) x.reading(i % 2, 1 + i % 2);
        Tape.lay(x, longest());
        return x;
    }

    /** A text of 300 bytes that stands: its last one is needed. */
    static String longest() {
        return "bears 1" + "+1".repeat(146) + ";";
    }
}
