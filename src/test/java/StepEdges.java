/** Edges of what lies, of steps by hand and by texts, and of the beam: promises 10 to 16. */
final class StepEdges {
    private static final int MIN = Integer.MIN_VALUE;
    private static final int MAX = Integer.MAX_VALUE;

    private StepEdges() { }

    static void run() {
        bears();
        load();
        moment();
        level();
        safe();
        put();
        putRefused();
        take();
        takeRefused();
        pass();
        passRefused();
        played();
        playedInPart();
        playedRefused();
        undo();
        fortySteps();
        undoOfAllThatLies();
        undoOverMidnight();
        undoRefused();
        of();
        ofRefused();
        now();
        nowRefused();
    }

    private static void borne(String law, int due) {
        DownByAHair x = Made.ruled(law, 999);
        Due.is(law + " left", x.of(0, 3), due);
        Due.is(law + " right", x.of(0, 4), due);
        Due.is(law + " put", x.put(0, 1), due);
        Due.is(law + " load", x.now(1), due);
    }

    private static void bears() {
        Due.term("A THING BEARS in a PAN: bears (0 at least, 9999 at most; without: its WEIGHT).");
        borne("bears 0;", 0);
        borne("bears -1;", 0);
        borne("bears 1;", 1);
        borne("bears -9999*9999;", 0);
        borne("bears 9998;", 9998);
        borne("bears 9999;", 9999);
        borne("bears 9999+1;", 9999);
        borne("bears 9999*9999;", 9999);
        borne("safe 1=1;", 999);
        borne("", 999);
        DownByAHair x = Made.withThings(1);
        Due.is("without a text", x.of(0, 3), 1);
        Due.is("without a text", x.of(0, 4), 1);
    }

    private static DownByAHair laden(int pan) {
        DownByAHair x = Made.ruled("bears 9999;", 1, 1, 1, 1, 1, 1, 1, 1, 1, 1, 1, 1);
        for (int i = 0; i < 12; i++) Due.is("load of " + (i + 1), x.put(i, pan), 9999 * (i + 1));
        return x;
    }

    private static void load() {
        Due.term("A PAN's LOAD: what all THINGS in it BEAR, together.");
        DownByAHair none = Made.withThings(5);
        Due.is("an empty pan", none.now(0), 0);
        Due.is("an empty pan", none.now(1), 0);
        Due.is("the greatest load", laden(0).now(0), 119988);
        Due.is("none in the other", laden(0).now(1), 0);
        Due.is("the greatest load", laden(1).now(1), 119988);
        DownByAHair both = Made.ruled("bears weight+100*(1+pan);", 5, 6);
        both.put(0, 0);
        both.put(1, 1);
        Due.is("as borne in the left pan", both.now(0), 105);
        Due.is("as borne in the right pan", both.now(1), 206);
    }

    private static void moment() {
        Due.term("MOMENT: the left ARM times the left LOAD less the right ARM times the right LOAD, and WIND times 10 more.");
        DownByAHair left = laden(0);
        left.beam(99, 1, 9999);
        left.weather(0, 0, 9);
        Due.is("the greatest", left.now(2), 99 * 119988 + 90);
        Due.is("down to the left", left.now(3), 1);
        DownByAHair right = laden(1);
        right.beam(1, 99, 9999);
        right.weather(0, 0, -9);
        Due.is("the least", right.now(2), -99 * 119988 - 90);
        Due.is("down to the right", right.now(3), 2);
        DownByAHair empty = new DownByAHair();
        Due.is("nothing", empty.now(2), 0);
        empty.weather(0, 0, -9);
        Due.is("the least wind", empty.now(2), -90);
        empty.weather(0, 0, 9);
        Due.is("the greatest wind", empty.now(2), 90);
    }

    /** The moment is one that 11 divides: a weight at an arm of 11, to the right if it is below 0. */
    private static void beamAt(int moment, int dull, int due) {
        DownByAHair x = Made.withThings(Math.max(1, Math.abs(moment) / 11));
        x.beam(11, 11, dull);
        if (moment != 0) x.put(0, moment > 0 ? 0 : 1);
        Due.is("moment", x.now(2), moment);
        Due.is("beam at " + moment + " dull " + dull, x.now(3), due);
    }

    private static void level() {
        Due.term("The beam is LEVEL (0), if MOMENT without its sign is DULL at most; else DOWN to the left (1: it is above 0), or the right (2).");
        beamAt(0, 0, 0);
        beamAt(0, 9999, 0);
        for (int dull : new int[] {11, 110, 9999}) {
            beamAt(dull, dull, 0);
            beamAt(-dull, dull, 0);
            beamAt(dull, dull - 1, 1);
            beamAt(-dull, dull - 1, 2);
            beamAt(dull, 0, 1);
            beamAt(-dull, 0, 2);
        }
        beamAt(10010, 9999, 1);
        beamAt(-10010, 9999, 2);
        DownByAHair x = Made.withThings(1);
        x.beam(1, 1, 0);
        x.put(0, 0);
        Due.is("down by the least", x.now(3), 1);
        x.take(0);
        x.put(0, 1);
        Due.is("down by the least", x.now(3), 2);
        x.beam(1, 1, 1);
        Due.is("level by the least", x.now(3), 0);
        DownByAHair y = Made.withThings(999, 1, 1);
        y.beam(10, 10, 9999);
        y.put(0, 0);
        y.put(1, 0);
        Due.is("10000 is above the greatest dull", y.now(3), 1);
        y.undo();
        Due.is("9990 is not", y.now(3), 0);
    }

    private static void safe() {
        Due.term("SAFE: safe is so (without: so), by what lies.");
        DownByAHair x = Made.ruled("safe left=5 and right=0;", 5, 1);
        Due.is("not so yet", x.now(4), 0);
        x.put(0, 0);
        Due.is("so", x.now(4), 1);
        Due.is("without a text", new DownByAHair().now(4), 1);
        Due.is("without safe", Made.ruled("bears 1;").now(4), 1);
        Due.is("an empty text", Made.ruled("").now(4), 1);
    }

    private static void put() {
        Due.term("BY HAND: a THING in no PAN is PUT into one, if all is SAFE then; one in a PAN is TAKEN, if all is SAFE then; n hours (0 .. 99) are WAITED: HOUR is that many more, by 24 what is left (whatever is SAFE).");
        Due.promise(10, "A THING is PUT: the LOAD of that PAN.");
        DownByAHair x = Made.withThings(1, 2, 3, 4, 5, 6, 7, 8, 9, 10, 11, 12);
        Due.is("the first thing", x.put(0, 0), 1);
        Due.is("the last thing", x.put(11, 1), 12);
        Due.is("left", x.about(12), 1);
        Due.is("right", x.about(13), 2048);
        Due.is("steps", x.about(9), 2);
        DownByAHair edge = Made.ruled("safe left<=10 and right<=10 and left+right<=15;", 10, 11, 5, 6);
        Due.is("just safe", edge.put(0, 1), 10);
        Due.is("just safe together", edge.put(2, 0), 5);
        DownByAHair mended = Made.ruled("safe left>=1 and right>=1;", 5, 5);
        Due.is("one pan alone isn't safe", mended.put(0, 0), -1);
        mended.by(-1);
        mended.put(0, 0);
        mended.by(0);
        Due.is("what wasn't safe is mended", mended.put(1, 1), 5);
        Due.is("a load of nothing", Made.ruled("bears 0;", 5).put(0, 0), 0);
        DownByAHair air = Made.ruled("bears 1000*hour+100*wet+wind+9+10*pan;safe hour*100+wet*10+wind=2399;", 5, 5);
        air.weather(23, 9, 9);
        Due.is("by the hour, wet and wind that are", air.put(0, 1), 9999);
        Due.is("in each pan", air.put(1, 0), 9999);
        air.weather(3, 2, 1);
        Due.is("not safe at others", air.take(0), -1);
        air.by(-1);
        air.undo();
        air.undo();
        Tape.read(air, "bears 1000*hour+100*wet+wind+10*pan;");
        air.by(1);
        air.weather(3, 2, 1);
        Due.is("left", air.put(0, 0), 3201);
        Due.is("right", air.put(1, 1), 3211);
    }

    private static DownByAHair onTheEdge() {
        DownByAHair x = Made.ruled("safe turned<=50;", 5, 4, 1, 6);
        x.by(-1);
        x.put(0, 0);
        x.put(1, 1);
        x.pass(30);
        x.by(0);
        return x;
    }

    private static void putRefused() {
        Due.promise(10, "NONE, if it can't be.");
        for (int thing : new int[] {-1, -2, 5, 6, 11, 12, 31, 32, 35, 64, MIN, MAX}) {
            Twins.idle("put " + thing + " 0", Made::furnished, x -> x.put(thing, 0), -1);
            Twins.idle("put " + thing + " 1", Made::furnished, x -> x.put(thing, 1), -1);
        }
        for (int pan : new int[] {-1, -2, 2, 3, MIN, MAX}) Twins.idle("put 3 " + pan, Made::furnished, x -> x.put(3, pan), -1);
        for (int pan = 0; pan < 2; pan++) {
            int told = pan;
            Twins.idle("put of one that lies right", Made::furnished, x -> x.put(0, told), -1);
            Twins.idle("put of one that lies left", Made::furnished, x -> x.put(1, told), -1);
        }
        // 5 - 4 + 1 and - 6 are safe, 5 - 4 + 6 isn't, by 10
        Twins.idle("put that isn't safe", StepEdges::onTheEdge, x -> x.put(3, 0), -1);
        Due.is("put that is just safe", onTheEdge().put(3, 1), 10);
        Due.is("put that is safe", onTheEdge().put(2, 0), 6);
        Twins.idle("put where nothing is safe", () -> Made.ruled("safe 1=2;", 5), x -> x.put(0, 0), -1);
        Twins.idle("put 12 of 12", Made::full, x -> x.put(12, 0), -1);
    }

    private static void take() {
        Due.promise(11, "A THING is TAKEN: the PAN in which it was.");
        DownByAHair x = Made.full();
        Due.is("right", x.take(1), 1);
        Due.is("left", x.take(0), 0);
        Due.is("nothing lies", x.about(12) + x.about(13), 0);
        x.put(11, 0);
        Due.is("the last thing", x.take(11), 0);
        DownByAHair y = onTheEdge();
        Due.is("just safe", y.take(1), 1);
        Due.is("moment", y.now(2), 50);
        DownByAHair z = Made.ruled("safe left+right<=3;", 5, 3);
        z.by(-1);
        z.put(0, 0);
        z.put(1, 1);
        z.by(0);
        Due.is("what wasn't safe is mended", z.take(0), 0);
    }

    private static void takeRefused() {
        Due.promise(11, "NONE, if it can't be.");
        for (int thing : new int[] {-1, -2, 3, 4, 5, 11, 12, 31, 32, 33, 64, MIN, MAX}) {
            Twins.idle("take " + thing, Made::furnished, x -> x.take(thing), -1);
        }
        Twins.idle("take of one that was taken", () -> {
            DownByAHair x = Made.furnished();
            x.take(0);
            return x;
        }, x -> x.take(0), -1);
        Twins.idle("take that isn't safe", () -> {
            DownByAHair x = Made.ruled("safe turned<=49;", 5, 4);
            x.by(-1);
            x.put(0, 0);
            x.put(1, 1);
            x.by(0);
            return x;
        }, x -> x.take(1), -1);
        Twins.idle("take where nothing is safe", () -> {
            DownByAHair x = Made.ruled("safe 1=2;", 5);
            x.by(-1);
            x.put(0, 1);
            x.by(0);
            return x;
        }, x -> x.take(0), -1);
    }

    private static void pass() {
        Due.promise(12, "WAITED: HOUR.");
        for (int hour = 0; hour < 24; hour++) {
            for (int hours : new int[] {0, 1, 23, 24, 25, 47, 48, 72, 95, 96, 98, 99}) {
                DownByAHair x = new DownByAHair();
                x.weather(hour, 3, 4);
                Due.is("pass " + hours + " from " + hour, x.pass(hours), (hour + hours) % 24);
                Due.is("hour", x.about(4), (hour + hours) % 24);
                Due.is("wet", x.about(5), 3);
                Due.is("wind", x.about(6), 4);
                Due.is("a step", x.about(9), 1);
            }
        }
        DownByAHair x = Made.ruled("safe hour=0;");
        Due.is("whatever is safe", x.pass(1), 1);
        Due.is("unsafe", x.now(4), 0);
        Due.is("from what isn't safe", x.pass(1), 2);
        Due.is("where nothing is", Made.ruled("safe 1=2;").pass(99), 3);
    }

    private static void passRefused() {
        Due.promise(12, "NONE for others.");
        for (int hours : new int[] {-1, -2, -24, 100, 101, 120, MIN, MAX}) {
            Twins.idle("pass " + hours, Made::furnished, x -> x.pass(hours), -1);
        }
    }

    private static void played() {
        Due.promise(13, "PLAYED by a TEXT: NONE: all is done; else the number of the CLAUSE that can't be.");
        Twins.idle("an empty text", () -> Made.ruled(""), x -> x.played(0), -1);
        Twins.idle("laws alone", () -> Made.ruled("bears 1;safe 1=1;", 5), x -> x.played(0), -1);
        Twins.idle("the first can't be", () -> Made.ruled("take 0;wait 1;", 5), x -> x.played(0), 0);
        Twins.idle("no such thing", () -> Made.ruled("put 1 on 0;", 5), x -> x.played(0), 0);
        Twins.idle("none behind laws", () -> Made.ruled("bears 1;safe 1=1;put 11 on 1;wait 1;", 5), x -> x.played(0), 2);
        DownByAHair x = Made.withThings(5);
        Tape.read(x, "wait 99;".repeat(24));
        Due.is("24 clauses", x.played(0), -1);
        Due.is("hour", x.about(4), 24 * 99 % 24);
        Due.is("steps", x.about(9), 24);
        Due.is("once more", x.played(0), -1);
        Due.is("the latest 40 steps", x.about(9), 40);
        DownByAHair y = Made.withThings(1, 2, 3, 4, 5, 6, 7, 8, 9, 10, 11, 12);
        Tape.read(y, "wait 0;put 11 on 1;put 0 on 0;wait 23;take 11;wait 2;");
        Due.is("all is done", y.played(0), -1);
        Due.is("left", y.about(12), 1);
        Due.is("right", y.about(13), 0);
        Due.is("hour", y.about(4), 1);
        Due.is("steps", y.about(9), 6);
        Due.is("the text that is played doesn't rule", y.about(8), -1);
        Tape.read(y, "put 11 on 1;put 10 on 0;put 1 on 1;");
        Due.is("each into its pan", y.played(1), -1);
        Due.is("left", y.about(12), 1024 + 1);
        Due.is("right", y.about(13), 2048 + 2);
    }

    private static void playedInPart() {
        Due.term("PLAYED by a TEXT: its put, take and wait clauses, in their order, as by hand; one that can't be ends it: its number among all CLAUSES (from 0); what was done stays.");
        for (int at = 0; at < 24; at++) {
            DownByAHair x = Made.withThings(5);
            Tape.read(x, "wait 1;".repeat(at) + "take 0;" + "wait 1;".repeat(23 - at));
            Due.is("ends at " + at, x.played(0), at);
            Due.is("hours", x.about(4), at % 24);
            Due.is("steps", x.about(9), at);
        }
        DownByAHair x = Made.ruled("put 0 on 0;safe left<=5;wait 1;bears weight;put 1 on 0;wait 1;", 5, 6);
        Due.is("laws count too", x.played(0), 4);
        Due.is("left", x.about(12), 1);
        Due.is("hour", x.about(4), 1);
        Due.is("steps", x.about(9), 2);
        Due.is("again: it lies there", x.played(0), 0);
        DownByAHair y = Made.withThings(5, 6);
        Tape.read(y, "put 0 on 0;safe left<=5;wait 1;bears weight;put 1 on 0;wait 1;");
        Due.is("its laws don't rule", y.played(0), -1);
    }

    private static void playedRefused() {
        Due.promise(13, "-2 for others.");
        for (int text : new int[] {-1, -2, 2, 3, 4, MIN, MAX}) {
            Twins.idle("played " + text, Made::furnished, x -> x.played(text), -2);
        }
        Twins.idle("played 0 of none", DownByAHair::new, x -> x.played(0), -2);
        Twins.idle("played 4 of 4", Made::full, x -> x.played(4), -2);
        DownByAHair x = Made.full();
        Due.is("played 3 of 4", x.played(3), -1);
        x.back();
        Due.is("played 2 of 2", x.played(2), -2);
        Due.is("played 1 of 2", x.played(1), -1);
    }

    private static void undo() {
        Due.promise(14, "The latest STEP is taken back: how many can be yet.");
        DownByAHair x = Made.withThings(5, 6);
        x.put(0, 0);
        Due.is("one", x.undo(), 0);
        Due.is("left", x.about(12), 0);
        x.pass(0);
        Due.is("0 hours are a step", x.about(9), 1);
        Due.is("they are taken back", x.undo(), 0);
        x.put(0, 0);
        x.put(1, 1);
        x.take(0);
        Due.is("the take", x.undo(), 2);
        Due.is("it lies again", x.of(0, 2), 0);
        Due.is("the put", x.undo(), 1);
        Due.is("it lies no more", x.of(1, 2), -1);
        x.put(1, 0);
        Due.is("steps go on from there", x.about(9), 2);
        Due.is("the new one", x.undo(), 1);
        Due.is("left", x.about(12), 1);
        Due.is("the first", x.undo(), 0);
        Due.is("none", x.undo(), -1);
        DownByAHair y = Made.ruled("safe left<=5;", 5, 6);
        y.put(0, 0);
        y.take(0);
        Tape.read(y, "safe 1=2;");
        y.by(1);
        Due.is("whatever is safe", y.undo(), 1);
        Due.is("left", y.about(12), 1);
    }

    private static void fortySteps() {
        Due.term("STEPS: all these; the latest 40 can be taken back, the latest first (what lies where and HOUR are as ahead of it).");
        for (int steps : new int[] {39, 40, 41, 80, 100}) {
            DownByAHair x = Made.withThings(5);
            for (int i = 0; i < steps; i++) {
                if (i % 3 == 2) x.pass(i % 100);
                else if (x.of(0, 2) < 0) x.put(0, i / 3 % 2);
                else x.take(0);
            }
            int can = Math.min(40, steps);
            Due.is("steps", x.about(9), can);
            DownByAHair ahead = Made.withThings(5);
            int[][] was = new int[steps + 1][];
            for (int i = 0; i < steps; i++) {
                was[i] = new int[] {ahead.about(4), ahead.of(0, 2)};
                if (i % 3 == 2) ahead.pass(i % 100);
                else if (was[i][1] < 0) ahead.put(0, i / 3 % 2);
                else ahead.take(0);
            }
            for (int i = 1; i <= can; i++) {
                Due.is("undo " + i + " of " + steps, x.undo(), can - i);
                Due.is("hour", x.about(4), was[steps - i][0]);
                Due.is("pan", x.of(0, 2), was[steps - i][1]);
            }
            Due.is("no more", x.undo(), -1);
            Due.is("what was ahead stays", x.about(4), was[steps - can][0]);
        }
        DownByAHair full = Made.full();
        full.undo();
        full.undo();
        full.pass(1);
        Due.is("39 behind two taken back and one more", full.about(9), 39);
        full.pass(1);
        full.pass(1);
        Due.is("40 again", full.about(9), 40);
    }

    /** The first and the last thing in each pan, ahead of each step. */
    private static void undoOfAllThatLies() {
        Due.term("(what lies where and HOUR are as ahead of it)");
        DownByAHair x = Made.withThings(1, 1, 1, 1, 1, 1, 1, 1, 1, 1, 1, 1);
        for (int round = 0; round < 2; round++) {
            for (int i = 0; i < 12; i++) x.put(i, (i + round) % 2);
            for (int i = 0; i < 12; i++) {
                Due.is("undo", x.undo(), 11 - i);
                int lies = (1 << 11 - i) - 1;
                Due.is("left", x.about(12), lies & (round == 0 ? 0x555 : 0xaaa));
                Due.is("right", x.about(13), lies & (round == 0 ? 0xaaa : 0x555));
            }
        }
        x.weather(23, 0, 0);
        for (int i = 0; i < 12; i++) x.put(i, 1);
        x.pass(1);
        x.undo();
        Due.is("all in the right pan", x.about(13), 4095);
        Due.is("none in the left", x.about(12), 0);
        Due.is("the greatest hour", x.about(4), 23);
    }

    private static void undoOverMidnight() {
        Due.term("STEPS: all these; the latest 40 can be taken back, the latest first (what lies where and HOUR are as ahead of it).");
        DownByAHair x = Made.withThings(5);
        x.weather(23, 0, 0);
        Due.is("over midnight", x.pass(1), 0);
        x.put(0, 0);
        Due.is("twice over", x.pass(48), 0);
        Due.is("undo", x.undo(), 2);
        Due.is("hour", x.about(4), 0);
        x.undo();
        Due.is("hour of the put", x.about(4), 0);
        Due.is("undo", x.undo(), 0);
        Due.is("hour", x.about(4), 23);
        x.pass(99);
        x.weather(7, 8, 9);
        x.undo();
        Due.is("hour as ahead of it", x.about(4), 23);
        Due.is("wet as told", x.about(5), 8);
        Due.is("wind as told", x.about(6), 9);
    }

    private static void undoRefused() {
        Due.promise(14, "NONE: there is none.");
        Twins.idle("undo of a new one", DownByAHair::new, DownByAHair::undo, -1);
        Twins.idle("undo behind all steps", () -> {
            DownByAHair x = Made.furnished();
            for (int i = 0; i < 4; i++) x.undo();
            x.weather(5, 5, 5);
            return x;
        }, DownByAHair::undo, -1);
        DownByAHair x = Made.withThings(5);
        x.beam(5, 5, 5);
        x.weather(5, 5, 5);
        x.reading(0, 0);
        Tape.read(x, "");
        x.by(0);
        x.put(0, 2);
        x.take(0);
        x.pass(100);
        x.played(0);
        x.image();
        x.back();
        Due.is("none of these is a step", x.undo(), -1);
    }

    private static void of() {
        Due.promise(15, "Of a THING: 0 WEIGHT, 1 SORT, 2 its PAN (NONE), 3, 4 what it BEARS in PAN 0, 1.");
        int[][] due = {{40, 3, 1, 74, 74}, {25, 0, 0, 44, 44}, {999, 9, 1, 1992, 1992}, {1, 1, -1, 0, 0}, {77, 5, -1, 148, 148}};
        for (int thing = 0; thing < 5; thing++) {
            for (int what = 0; what < 5; what++) {
                int of = thing;
                int asked = what;
                Twins.idle("of " + thing + " " + what, Made::furnished, x -> x.of(of, asked), due[thing][what]);
            }
        }
        DownByAHair x = Made.ruled("bears 10*thing+pan;", 1, 1, 1, 1, 1, 1, 1, 1, 1, 1, 1, 999);
        Due.is("the last thing's weight", x.of(11, 0), 999);
        Due.is("the last thing left", x.of(11, 3), 110);
        Due.is("the last thing right", x.of(11, 4), 111);
        x.put(11, 1);
        Due.is("wherever it lies", x.of(11, 3), 110);
        Due.is("its pan", x.of(11, 2), 1);
    }

    private static void ofRefused() {
        Due.promise(15, "-2 for others.");
        for (int thing : new int[] {-1, -2, 5, 6, 11, 12, 13, MIN, MAX}) {
            for (int what : new int[] {0, 2, 3}) Twins.idle("of " + thing + " " + what, Made::furnished, x -> x.of(thing, what), -2);
        }
        for (int what : new int[] {-1, -2, 5, 6, MIN, MAX}) {
            Twins.idle("of 0 " + what, Made::furnished, x -> x.of(0, what), -2);
        }
        Twins.idle("of 12 of 12", Made::full, x -> x.of(12, 0), -2);
        Twins.idle("of 0 of none", DownByAHair::new, x -> x.of(0, 0), -2);
    }

    private static void now() {
        Due.promise(16, "0, 1 LOADS of the PANS, 2 MOMENT, 3 how the beam is (0, 1, 2), 4 SAFE (1, 0).");
        int[] due = {44, 74 + 1992, 7 * 44 - 3 * 2066 - 40, 2, 1};
        for (int what = 0; what < 5; what++) {
            int asked = what;
            Twins.idle("now " + what, Made::furnished, x -> x.now(asked), due[what]);
            Due.is("now " + what + " of a new one", new DownByAHair().now(what), what == 4 ? 1 : 0);
        }
        Twins.idle("unsafe", () -> Made.ruled("safe 1=2;"), x -> x.now(4), 0);
    }

    private static void nowRefused() {
        Due.promise(16, "-100000000 for others.");
        for (int what : new int[] {-1, -2, 5, 6, MIN, MAX}) {
            Twins.idle("now " + what, Made::furnished, x -> x.now(what), -100000000);
        }
    }
}
