/** Edges of readings, and of the span and the arms that they leave: promises 19 to 22. */
final class ReadingEdges {
    private static final int MIN = Integer.MIN_VALUE;
    private static final int MAX = Integer.MAX_VALUE;

    private ReadingEdges() { }

    static void run() {
        reading();
        readingRefused();
        forget();
        span();
        spanOfWhatIsBorne();
        spanAsItWasThen();
        spanRefused();
        bent();
        bentAsItWasThen();
        bentRefused();
    }

    private static DownByAHair even(int... weights) {
        DownByAHair x = Made.withThings(weights);
        x.beam(1, 1, 0);
        return x;
    }

    private static void span(String what, DownByAHair x, int count, int least, int greatest) {
        Due.is(what + ": how many", x.span(0), count);
        Due.is(what + ": the least", x.span(1), least);
        Due.is(what + ": the greatest", x.span(2), greatest);
    }

    private static void reading() {
        Due.term("READINGS (10 at most): X, a load of SORT 0 that isn't known, is laid (as a THING, number 12) into a PAN beside what lies, at HOUR, WET, WIND as they are, and the beam is LEVEL, or DOWN to a side (told).");
        Due.promise(19, "A READING more: X in a PAN, how the beam is (0 .. 2): how many there are.");
        for (int pan = 0; pan < 2; pan++) {
            for (int beam = 0; beam < 3; beam++) {
                DownByAHair x = new DownByAHair();
                Due.is("reading " + pan + " " + beam, x.reading(pan, beam), 1);
                Due.is("no step", x.about(9), 0);
                Due.is("nothing lies", x.now(2), 0);
                // nothing but X lies: it draws its own pan down, whatever it weighs
                boolean so = beam == 1 + pan;
                span("reading " + pan + " " + beam, x, so ? 999 : 0, so ? 1 : -1, so ? 999 : -1);
            }
        }
        DownByAHair x = new DownByAHair();
        for (int i = 1; i <= 10; i++) {
            Due.is("reading", x.reading(i % 2, i % 3), i);
            Due.is("readings", x.about(10), i);
        }
        // each of the ten counts, the last too
        for (int last = 0; last < 10; last++) {
            DownByAHair y = even(500);
            for (int i = 0; i < last; i++) y.reading(0, 1);
            y.put(0, 1);
            y.reading(0, 0);
            y.take(0);
            for (int i = last + 1; i < 10; i++) y.reading(0, 1);
            span("the " + last + "th", y, 1, 500, 500);
            Due.is("arms by the " + last + "th", y.bent(999, 0), 0);
        }
    }

    private static void readingRefused() {
        Due.promise(19, "NONE for others, or if there are 10.");
        for (int pan : new int[] {-1, -2, 2, 3, MIN, MAX}) Twins.idle("reading " + pan + " 0", Made::furnished, x -> x.reading(pan, 0), -1);
        for (int beam : new int[] {-1, -2, 3, 4, MIN, MAX}) Twins.idle("reading 0 " + beam, Made::furnished, x -> x.reading(0, beam), -1);
        for (int beam = 0; beam < 3; beam++) {
            int told = beam;
            Twins.idle("the 11th", Made::full, x -> x.reading(0, told), -1);
            Twins.idle("the 11th", Made::full, x -> x.reading(1, told), -1);
        }
    }

    private static void forget() {
        Due.promise(20, "No READINGS: how many there were.");
        Twins.idle("none", DownByAHair::new, DownByAHair::forget, 0);
        DownByAHair full = Made.full();
        Due.is("ten", full.forget(), 10);
        Due.is("none", full.about(10), 0);
        Due.is("none again", full.forget(), 0);
        span("without readings", full, 999, 1, 999);
        Due.is("arms without readings", full.bent(1, 0), 400);
        for (int i = 1; i <= 10; i++) Due.is("ten again", full.reading(0, 1), i);
        Due.is("the 11th", full.reading(0, 1), -1);
        DownByAHair one = Made.furnished();
        Due.is("three", one.forget(), 3);
        Due.is("steps stay", one.about(9), 4);
        one.back();
        Due.is("the image's", one.forget(), 1);
    }

    /** What is left with a thing of this weight in the right pan and X in the left. */
    private static void against(int weight, int dull, int beam, int... due) {
        DownByAHair x = even(weight);
        x.beam(1, 1, dull);
        x.put(0, 1);
        x.reading(0, beam);
        span("X against " + weight + " dull " + dull + " beam " + beam, x, due[0], due[1], due[2]);
        // the same with the sides changed
        DownByAHair y = even(weight);
        y.beam(1, 1, dull);
        y.put(0, 0);
        y.reading(1, beam == 0 ? 0 : 3 - beam);
        span("X right of " + weight + " dull " + dull + " beam " + beam, y, due[0], due[1], due[2]);
    }

    private static void span() {
        Due.promise(21, "SPAN: 0 how many, 1 the least, 2 the greatest (NONE: none).");
        span("without readings", new DownByAHair(), 999, 1, 999);
        against(1, 0, 0, 1, 1, 1);
        against(999, 0, 0, 1, 999, 999);
        against(1, 0, 1, 998, 2, 999);
        against(1, 0, 2, 0, -1, -1);
        against(2, 0, 2, 1, 1, 1);
        against(998, 0, 1, 1, 999, 999);
        against(999, 0, 1, 0, -1, -1);
        against(999, 0, 2, 998, 1, 998);
        against(500, 3, 0, 7, 497, 503);
        against(500, 3, 1, 496, 504, 999);
        against(500, 3, 2, 496, 1, 496);
        against(1, 998, 0, 999, 1, 999);
        against(1, 997, 0, 998, 1, 998);
        against(999, 997, 0, 998, 2, 999);
        against(500, 9999, 1, 0, -1, -1);
        // 4 (2 X) against 9 * 43 then, within 30: what is read behind it leaves all these
        int[] due = {8, 45, 52};
        for (int what = 0; what < 3; what++) {
            int asked = what;
            Twins.idle("span " + what, Made::furnished, x -> x.span(asked), due[what]);
        }
    }

    /** X in a pan, level with what lies, and then a text that rules in place of the one that did. */
    private static void levelBy(String text, int pan, DownByAHair x, int... due) {
        x.reading(pan, 0);
        int number = Tape.read(x, text);
        Due.is("rule " + text, x.by(number), true);
        span(text, x, due[0], due[1], due[2]);
    }

    private static void spanOfWhatIsBorne() {
        Due.term("X, a load of SORT 0 that isn't known, is laid (as a THING, number 12)");
        DownByAHair heavy = even(1);
        Tape.read(heavy, "bears 9999;");
        heavy.by(0);
        heavy.put(0, 1);
        levelBy("bears weight*100;", 0, heavy, 900, 100, 999);
        levelBy("bears weight-500;", 0, even(), 500, 1, 500);
        String[] laws = {"bears weight+thing;", "bears weight+12+100*sort;", "bears weight+12+100*pan;"};
        for (String law : laws) {
            DownByAHair x = even();
            x.thing(112, 9);
            x.put(0, 1);
            levelBy(law, 0, x, 1, 100, 100);
        }
        DownByAHair right = even(600);
        right.put(0, 0);
        levelBy("bears weight+500*pan;", 1, right, 1, 100, 100);
    }

    private static void spanAsItWasThen() {
        Due.term("SPAN: WEIGHTS of X from 1 to 999 by which all READINGS are as the beam would be (ARMS and DULL as they were then; by THE TEXT as it is now; what lay there weighs as it did then): how many, the least, the greatest.");
        DownByAHair x = even(300);
        Tape.read(x, "bears weight+hour*10+wet+wind;");
        x.beam(2, 3, 1);
        x.weather(23, 9, -9);
        x.put(0, 1);
        x.reading(0, 0);
        // 2 X - 900 - 90 is within 1
        span("then", x, 1, 495, 495);
        x.beam(99, 1, 9999);
        x.weather(0, 0, 9);
        x.take(0);
        span("arms, dull, wind and what lay", x, 1, 495, 495);
        x.by(0);
        // 2 (X + 230) - 990 is within 1
        span("by the text now at the weather then", x, 1, 265, 265);
        x.forget();
        x.weather(0, 0, 0);
        x.beam(1, 1, 0);
        x.put(0, 1);
        x.pass(25);
        x.reading(0, 0);
        x.by(-1);
        // 300 + 10 at hour 1, when it was read
        span("by the text then what lay", x, 1, 310, 310);
        x.weather(0, 0, 0);
        x.reading(0, 2);
        span("another one", x, 0, -1, -1);
    }

    private static void spanRefused() {
        Due.promise(21, "NONE for others.");
        for (int what : new int[] {-1, -2, 3, 4, MIN, MAX}) {
            Twins.idle("span " + what, Made::furnished, x -> x.span(what), -1);
            Twins.idle("span " + what + " without readings", DownByAHair::new, x -> x.span(what), -1);
        }
    }

    /** Arms that make a weight to the left level with X to the right. */
    private static void arms(int left, int x, int count, int first) {
        DownByAHair balance = even(left);
        balance.put(0, 0);
        balance.reading(1, 0);
        Due.is("bent " + left + " against " + x, balance.bent(x, 0), count);
        Due.is("first " + left + " against " + x, balance.bent(x, 1), first);
    }

    private static void bent() {
        Due.term("BENT for an X (1 .. 999): ARMS l, r (1 .. 20 each, in place of those then) by which all READINGS are so: how many; the first by l, then r.");
        Due.promise(22, "BENT for an X: 0 how many, 1 the first: 100 l + r (NONE: none).");
        DownByAHair none = new DownByAHair();
        for (int x : new int[] {1, 2, 998, 999}) {
            Due.is("all arms", none.bent(x, 0), 400);
            Due.is("the first of all", none.bent(x, 1), 101);
        }
        arms(20, 1, 1, 120);
        arms(1, 20, 1, 2001);
        arms(19, 20, 1, 2019);
        arms(20, 19, 1, 1920);
        arms(21, 1, 0, -1);
        arms(1, 21, 0, -1);
        arms(1, 1, 20, 101);
        arms(999, 999, 20, 101);
        arms(10, 1, 2, 110);
        arms(3, 2, 6, 203);
        DownByAHair down = even(1);
        down.put(0, 0);
        down.reading(1, 1);
        // l is above r
        Due.is("down to the left", down.bent(1, 0), 190);
        Due.is("the first by l, then r", down.bent(1, 1), 201);
        down.reading(1, 2);
        Due.is("and to the right", down.bent(1, 0), 0);
        Due.is("no first", down.bent(1, 1), -1);
        DownByAHair right = even(1);
        right.put(0, 0);
        right.reading(1, 2);
        Due.is("down to the right", right.bent(1, 0), 190);
        Due.is("the first", right.bent(1, 1), 102);
    }

    private static void bentAsItWasThen() {
        Due.term("BENT for an X (1 .. 999): ARMS l, r (1 .. 20 each, in place of those then) by which all READINGS are so: how many; the first by l, then r.");
        DownByAHair x = even(5);
        x.beam(99, 98, 10);
        x.weather(3, 2, 1);
        x.put(0, 0);
        x.reading(1, 0);
        x.beam(1, 1, 0);
        x.weather(0, 0, 0);
        x.take(0);
        Tape.read(x, "bears weight*(hour-wet);");
        x.by(0);
        // 5 l - 5 r + 10 is within 10: r - l is 0 to 4
        Due.is("dull, wind and what lay", x.bent(5, 0), 20 + 19 + 18 + 17 + 16);
        Due.is("the first", x.bent(5, 1), 101);
        // 5 l - 100 r + 10 is within 10: l is 16 to 20 and r is 1
        Due.is("the ends", x.bent(100, 0), 5);
        Due.is("the first", x.bent(100, 1), 1601);
        Due.is("never", x.bent(999, 0), 0);
    }

    private static void bentRefused() {
        Due.promise(22, "NONE for others.");
        for (int x : new int[] {0, -1, 1000, 1001, MIN, MAX}) {
            for (int what = 0; what < 2; what++) {
                int asked = what;
                Twins.idle("bent " + x + " " + what, Made::furnished, y -> y.bent(x, asked), -1);
                Twins.idle("bent " + x + " " + what + " without readings", DownByAHair::new, y -> y.bent(x, asked), -1);
            }
        }
        for (int what : new int[] {-1, -2, 2, 3, MIN, MAX}) {
            Twins.idle("bent 1 " + what, Made::furnished, y -> y.bent(1, what), -1);
            Twins.idle("bent 1 " + what + " without readings", DownByAHair::new, y -> y.bent(1, what), -1);
        }
    }
}
