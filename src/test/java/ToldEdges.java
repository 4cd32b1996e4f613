/** Edges of what is told of the balance, its things and its weather, and of what is about: promises 1 to 4, 28. */
final class ToldEdges {
    private static final int MIN = Integer.MIN_VALUE;
    private static final int MAX = Integer.MAX_VALUE;

    private ToldEdges() { }

    static void run() {
        newObject();
        atFirst();
        arms();
        dull();
        beamRefused();
        weights();
        sorts();
        twelveThings();
        thingRefused();
        weather();
        weatherRefused();
        about();
        constants();
    }

    private static void newObject() {
        Due.promise(1, "No THINGS; THE IMAGE is this.");
        DownByAHair x = new DownByAHair();
        Due.is("things", x.about(0), 0);
        for (int thing = 0; thing < 12; thing++) {
            Due.is("of " + thing, x.of(thing, 0), -2);
            Due.is("put " + thing, x.put(thing, 0), -1);
            Due.is("take " + thing, x.take(thing), -1);
            Due.is("loadings of " + thing, x.loadings(1 << thing, 0), -1);
        }
        Due.is("balanced", x.balanced(1, 0), -1);
        Twins.idle("back of a new object", DownByAHair::new, DownByAHair::back, 0);

        // the fault that was found is of no image, so the new one finds the same
        DownByAHair changed = new DownByAHair();
        changed.thing(9, 9);
        changed.thing(8, 8);
        changed.beam(99, 99, 99);
        changed.weather(9, 9, 9);
        Tape.read(changed, "bears 5;");
        changed.by(0);
        changed.put(0, 0);
        changed.put(1, 1);
        changed.reading(0, 0);
        Tape.read(changed, "!");
        Due.is("back", changed.back(), 0);
        DownByAHair fresh = new DownByAHair();
        Tape.read(fresh, "!");
        Twins.alike("back to the first image", changed, fresh);

        // what is done to one object is not done to another
        DownByAHair other = new DownByAHair();
        Made.furnished();
        Made.full();
        Twins.alike("beside others", other, new DownByAHair());
    }

    private static void atFirst() {
        DownByAHair x = new DownByAHair();
        Due.term("ARMS left and right (1 .. 99 each; at first 10), DULL (0 .. 9999; at first 0).");
        Due.is("left at first", x.about(1), 10);
        Due.is("right at first", x.about(2), 10);
        Due.is("dull at first", x.about(3), 0);
        Due.term("HOUR (0 .. 23), WET (0 .. 9), WIND (-9 .. 9): at first 0.");
        Due.is("hour at first", x.about(4), 0);
        Due.is("wet at first", x.about(5), 0);
        Due.is("wind at first", x.about(6), 0);
        Due.term("THE TEXT (told; at first none) rules.");
        Due.is("text at first", x.about(8), -1);
        Due.term("each lies in PAN 0 (left), 1 (right) or none (at first).");
        for (int i = 0; i < 12; i++) {
            x.thing(5, 5);
            Due.is("pan at first", x.of(i, 2), -1);
        }
        Due.is("left pan", x.about(12), 0);
        Due.is("right pan", x.about(13), 0);
    }

    private static void beam(int left, int right, int dull) {
        DownByAHair x = new DownByAHair();
        Due.is("beam " + left + " " + right + " " + dull, x.beam(left, right, dull), true);
        Due.is("left", x.about(1), left);
        Due.is("right", x.about(2), right);
        Due.is("dull", x.about(3), dull);
        Due.is("no step", x.about(9), 0);
    }

    private static void arms() {
        Due.promise(2, "ARMS and DULL: true.");
        for (int arm : new int[] {1, 2, 98, 99}) {
            beam(arm, 50, 5);
            beam(50, arm, 5);
        }
        beam(1, 99, 0);
        beam(99, 1, 9999);
        DownByAHair x = new DownByAHair();
        x.thing(1, 0);
        x.thing(999, 0);
        x.beam(1, 99, 0);
        x.put(0, 0);
        Due.is("the shortest arm", x.now(2), 1);
        x.put(1, 1);
        Due.is("the longest arm", x.now(2), 1 - 99 * 999);
    }

    private static void dull() {
        Due.promise(2, "ARMS and DULL: true.");
        for (int dull : new int[] {0, 1, 9998, 9999}) beam(5, 6, dull);
    }

    private static void beamRefused() {
        Due.promise(2, "False for others.");
        for (int arm : new int[] {0, -1, 100, 101, MIN, MAX}) {
            Twins.idle("beam " + arm + " 5 5", Made::furnished, x -> x.beam(arm, 5, 5) ? 1 : 0, 0);
            Twins.idle("beam 5 " + arm + " 5", Made::furnished, x -> x.beam(5, arm, 5) ? 1 : 0, 0);
        }
        for (int dull : new int[] {-1, -2, 10000, 10001, MIN, MAX}) {
            Twins.idle("beam 5 5 " + dull, Made::furnished, x -> x.beam(5, 5, dull) ? 1 : 0, 0);
        }
        Twins.idle("beam 0 0 -1", Made::furnished, x -> x.beam(0, 0, -1) ? 1 : 0, 0);
        Twins.idle("beam 100 100 10000", Made::furnished, x -> x.beam(100, 100, 10000) ? 1 : 0, 0);
    }

    private static void thing(int weight, int sort) {
        DownByAHair x = new DownByAHair();
        Due.is("thing " + weight + " " + sort, x.thing(weight, sort), 0);
        Due.is("weight", x.of(0, 0), weight);
        Due.is("sort", x.of(0, 1), sort);
        Due.is("things", x.about(0), 1);
        Due.is("no step", x.about(9), 0);
    }

    private static void weights() {
        Due.term("THINGS 0 .. 11 (told one by one): WEIGHT (1 .. 999), SORT (0 .. 9);");
        for (int weight : new int[] {1, 2, 998, 999}) thing(weight, 4);
    }

    private static void sorts() {
        Due.promise(3, "A THING: its number.");
        for (int sort = 0; sort <= 9; sort++) thing(500, sort);
    }

    private static void twelveThings() {
        Due.promise(3, "A THING: its number.");
        DownByAHair x = new DownByAHair();
        for (int i = 0; i < 12; i++) {
            Due.is("refused ahead of it", x.thing(0, 0), -1);
            Due.is("thing", x.thing(i + 1, i % 10), i);
            Due.is("things", x.about(0), i + 1);
        }
        for (int i = 0; i < 12; i++) {
            Due.is("weight " + i, x.of(i, 0), i + 1);
            Due.is("sort " + i, x.of(i, 1), i % 10);
        }
        // behind an image with fewer things numbers go on from there
        x.back();
        Due.is("the first again", x.thing(77, 7), 0);
        Due.is("its weight", x.of(0, 0), 77);
        Due.is("nothing behind it", x.of(1, 0), -2);
    }

    private static void thingRefused() {
        Due.promise(3, "NONE for others, or if there are 12.");
        for (int weight : new int[] {0, -1, 1000, 1001, MIN, MAX}) {
            Twins.idle("thing " + weight + " 5", Made::furnished, x -> x.thing(weight, 5), -1);
        }
        for (int sort : new int[] {-1, -2, 10, 11, MIN, MAX}) {
            Twins.idle("thing 5 " + sort, Made::furnished, x -> x.thing(5, sort), -1);
        }
        Twins.idle("the 13th", Made::full, x -> x.thing(5, 5), -1);
        Twins.idle("the 13th, a wrong one", Made::full, x -> x.thing(0, 10), -1);
    }

    private static void told(int hour, int wet, int wind) {
        DownByAHair x = new DownByAHair();
        Due.is("weather " + hour + " " + wet + " " + wind, x.weather(hour, wet, wind), true);
        Due.is("hour", x.about(4), hour);
        Due.is("wet", x.about(5), wet);
        Due.is("wind", x.about(6), wind);
        Due.is("no step", x.about(9), 0);
        Due.is("wind alone", x.now(2), 10 * wind);
    }

    private static void weather() {
        Due.promise(4, "HOUR, WET, WIND: true.");
        for (int hour = 0; hour <= 23; hour++) told(hour, 5, 5);
        for (int wet = 0; wet <= 9; wet++) told(12, wet, 5);
        for (int wind = -9; wind <= 9; wind++) told(12, 5, wind);
        told(0, 0, -9);
        told(23, 9, 9);
    }

    private static void weatherRefused() {
        Due.promise(4, "False for others.");
        for (int hour : new int[] {-1, -2, 24, 25, MIN, MAX}) {
            Twins.idle("weather " + hour + " 5 5", Made::furnished, x -> x.weather(hour, 5, 5) ? 1 : 0, 0);
        }
        for (int wet : new int[] {-1, -2, 10, 11, MIN, MAX}) {
            Twins.idle("weather 5 " + wet + " 5", Made::furnished, x -> x.weather(5, wet, 5) ? 1 : 0, 0);
        }
        for (int wind : new int[] {-10, -11, 10, 11, MIN, MAX}) {
            Twins.idle("weather 5 5 " + wind, Made::furnished, x -> x.weather(5, 5, wind) ? 1 : 0, 0);
        }
    }

    private static void about() {
        Due.promise(28, "0 THINGS, 1, 2 ARMS, 3 DULL, 4 HOUR, 5 WET, 6 WIND, 7 TEXTS, 8 THE TEXT (NONE), 9 STEPS that can be taken back, 10 READINGS, 11 bytes of the tape, 12, 13 THINGS in the PANS (bits).");
        int[] some = {5, 7, 3, 12, 1, 6, -4, 2, 1, 4, 3, 15, 2, 5};
        int[] full = {12, 10, 10, 0, 3, 0, 0, 4, -1, 40, 10, 300, 1, 2};
        for (int what = 0; what < 14; what++) {
            int asked = what;
            Twins.idle("about " + what, Made::furnished, x -> x.about(asked), some[what]);
            Twins.idle("about " + what + " of a full one", Made::full, x -> x.about(asked), full[what]);
        }
        DownByAHair x = new DownByAHair();
        for (int i = 0; i < 12; i++) x.thing(1, 0);
        x.put(11, 0);
        Due.is("the last thing's bit", x.about(12), 2048);
        for (int i = 0; i < 11; i++) x.put(i, 1);
        Due.is("all the others' bits", x.about(13), 2047);
        x.take(11);
        x.put(11, 1);
        Due.is("all bits", x.about(13), 4095);
        Due.is("no bits", x.about(12), 0);
        Due.promise(28, "-100 for others.");
        for (int what : new int[] {-1, -2, 14, 15, MIN, MAX}) {
            Twins.idle("about " + what, Made::furnished, y -> y.about(what), -100);
        }
    }

    private static void constants() {
        Due.term("The constants: `NONE = -1`: None.");
        Due.is("NONE", DownByAHair.NONE, -1);
    }
}
