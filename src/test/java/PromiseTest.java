/** Each promise of the document in its turn: ordinary calls, the edges that it names, and wrong arguments. */
public final class PromiseTest {
    private static final int MIN = Integer.MIN_VALUE;
    private static final int MAX = Integer.MAX_VALUE;
    private static int wrong = 0;
    private static int promise = 0;

    private static void due(String what, long got, long want) {
        if (got != want) {
            wrong++;
            System.out.println("promise " + promise + ": " + what + " answered " + got + ", due is " + want);
        }
    }

    private static void due(String what, boolean got, boolean want) {
        due(what, got ? 1 : 0, want ? 1 : 0);
    }

    private static DownByAHair withThings(int... weights) {
        DownByAHair x = new DownByAHair();
        for (int weight : weights) x.thing(weight, 0);
        return x;
    }

    /** A new object with things, ruled by a text. */
    private static DownByAHair ruled(String text, int... weights) {
        DownByAHair x = withThings(weights);
        int number = Tape.read(x, text);
        due("read " + text, number, 0);
        due("rule " + text, x.by(0), true);
        return x;
    }

    /** What a sum is for thing 1 of weight 5 and sort 3 in the right pan at hour 7, wet 4, wind -2. */
    private static int sum(String sum) {
        DownByAHair x = new DownByAHair();
        x.thing(1, 1);
        x.thing(5, 3);
        x.weather(7, 4, -2);
        due("read bears " + sum, Tape.read(x, "bears " + sum + ";"), 0);
        x.by(0);
        return x.of(1, 4);
    }

    /** What an ask is with 20 in the left pan and 9 in the right, arms 2 and 3, hour 7, wet 4, wind -2. */
    private static boolean ask(String ask) {
        DownByAHair x = withThings(20, 9);
        x.beam(2, 3, 0);
        x.weather(7, 4, -2);
        x.put(0, 0);
        x.put(1, 1);
        due("read safe " + ask, Tape.read(x, "safe " + ask + ";"), 0);
        x.by(0);
        return x.now(4) == 1;
    }

    private static void fault(String text, int number, int place) {
        DownByAHair x = new DownByAHair();
        due("text of " + text, Tape.read(x, text), number == 0 ? 0 : -1);
        due("fault of " + text, x.fault(0), number);
        due("place of " + text, x.fault(1), place);
    }

    private static void isNew(DownByAHair x) {
        int[] due = {0, 10, 10, 0, 0, 0, 0, 0, -1, 0, 0, 0, 0, 0};
        for (int what = 0; what < due.length; what++) due("about " + what, x.about(what), due[what]);
    }

    private static void newObject() {
        promise = 1;
        DownByAHair x = new DownByAHair();
        isNew(x);
        for (int what = 0; what < 4; what++) due("now " + what, x.now(what), 0);
        due("safe", x.now(4), 1);
        x.thing(5, 5);
        x.beam(3, 4, 5);
        x.weather(1, 2, 3);
        x.put(0, 1);
        x.reading(0, 0);
        Tape.read(x, "safe 0=0;");
        x.by(0);
        due("back", x.back(), 0);
        isNew(x);
        due("of none", x.of(0, 0), -2);
    }

    private static void beam() {
        promise = 2;
        DownByAHair x = new DownByAHair();
        due("beam", x.beam(1, 99, 9999), true);
        due("left", x.about(1), 1);
        due("right", x.about(2), 99);
        due("dull", x.about(3), 9999);
        due("beam", x.beam(99, 1, 0), true);
        int[][] others = {{0, 5, 5}, {100, 5, 5}, {5, 0, 5}, {5, 100, 5}, {5, 5, -1}, {5, 5, 10000}, {MIN, 5, 5}, {5, MAX, 5}};
        for (int[] o : others) due("beam " + o[0] + " " + o[1] + " " + o[2], x.beam(o[0], o[1], o[2]), false);
        due("left stays", x.about(1), 99);
        due("right stays", x.about(2), 1);
        due("dull stays", x.about(3), 0);
    }

    private static void thing() {
        promise = 3;
        DownByAHair x = new DownByAHair();
        due("too light", x.thing(0, 0), -1);
        due("too heavy", x.thing(1000, 0), -1);
        due("sort below", x.thing(1, -1), -1);
        due("sort above", x.thing(1, 10), -1);
        due("far off", x.thing(MIN, MAX), -1);
        for (int i = 0; i < 12; i++) due("thing", x.thing(i == 0 ? 1 : 999, i % 10), i);
        due("the 13th", x.thing(1, 0), -1);
        due("things", x.about(0), 12);
        due("first weight", x.of(0, 0), 1);
        due("last weight", x.of(11, 0), 999);
        due("last sort", x.of(11, 1), 1);
        due("lies nowhere", x.of(11, 2), -1);
    }

    private static void weather() {
        promise = 4;
        DownByAHair x = new DownByAHair();
        due("weather", x.weather(23, 9, -9), true);
        due("hour", x.about(4), 23);
        due("wet", x.about(5), 9);
        due("wind", x.about(6), -9);
        due("weather", x.weather(0, 0, 9), true);
        int[][] others = {{-1, 1, 1}, {24, 1, 1}, {1, -1, 1}, {1, 10, 1}, {1, 1, -10}, {1, 1, 10}, {MIN, 1, 1}, {1, 1, MAX}};
        for (int[] o : others) due("weather " + o[0] + " " + o[1] + " " + o[2], x.weather(o[0], o[1], o[2]), false);
        due("hour stays", x.about(4), 0);
        due("wet stays", x.about(5), 0);
        due("wind stays", x.about(6), 9);
        due("no step", x.about(9), 0);
    }

    private static void feed() {
        promise = 5;
        DownByAHair x = new DownByAHair();
        // "bears 7;" in two words, the highest byte first, behind them blanks
        due("feed", x.feed(0x62656172, 0x7320373b, 0x20202020, 0x20202020, 0x20202020), 20);
        due("text", x.text(), 0);
        for (int i = 1; i <= 15; i++) due("feed", x.feed(-1, MIN, MAX, 0, 1), 20 * i);
        due("full", x.feed(0, 0, 0, 0, 0), -1);
        due("full still", x.about(11), 300);
        x.end(281);
        due("one too many", x.feed(0, 0, 0, 0, 0), -1);
        due("none came", x.about(11), 281);
        x.end(280);
        due("just so many", x.feed(0, 0, 0, 0, 0), 300);
        x.end(0);
        // the bytes of a come ahead of those of b, .., e: a strange one stands where it was put
        int[] words = {0x20202020, 0x20202020, 0x20202020, 0x20202020, 0x20202020};
        for (int i = 0; i < 20; i++) {
            int[] w = words.clone();
            w[i / 4] ^= 1 << 24 - i % 4 * 8;
            x.feed(w[0], w[1], w[2], w[3], w[4]);
            due("strange", x.text(), -1);
            due("its place", x.fault(1), i);
        }
        DownByAHair high = new DownByAHair();
        high.feed(0x0aff2020, 0, 0, 0, 0);
        due("no token", high.text(), -1);
        due("byte 255 is none", high.fault(1), 1);
    }

    private static void end() {
        promise = 6;
        DownByAHair x = new DownByAHair();
        due("end of nothing", x.end(0), 0);
        due("has not so many", x.end(1), -1);
        x.feed(0, 0, 0, 0, 0);
        due("all", x.end(20), 20);
        due("one more", x.end(21), -1);
        due("below 0", x.end(-1), -1);
        due("far off", x.end(MIN), -1);
        due("nothing was done", x.about(11), 20);
        due("fewer", x.end(3), 3);
        due("three", x.about(11), 3);
        due("feed behind", x.feed(0, 0, 0, 0, 0), 23);
    }

    private static void text() {
        promise = 7;
        DownByAHair x = new DownByAHair();
        due("empty text", x.text(), 0);
        due("texts", x.about(7), 1);
        due("a text", Tape.read(x, "wait 1;"), 1);
        due("the tape is empty", x.about(11), 0);
        due("a wrong text", Tape.read(x, "wait;"), -1);
        due("the tape is empty then too", x.about(11), 0);
        due("texts stay", x.about(7), 2);
        due("blanks alone", Tape.read(x, " \n \n"), 2);
        due("the last", Tape.read(x, "take 1;"), 3);
        Tape.lay(x, "wait");
        due("the fifth", x.text(), -1);
        due("the tape stays", x.about(11), 4);
        due("it was not read", x.fault(0), 0);
        StringBuilder longest = new StringBuilder("bears 1");
        while (longest.length() < 299) longest.append("+1");
        DownByAHair y = withThings(1);
        due("300 bytes and no end", Tape.read(y, longest + "+"), -1);
        due("300 bytes", Tape.read(y, longest + ";"), 0);
        y.by(0);
        due("what was wrong left nothing", y.of(0, 3), 147);
        // a text's number is free again behind an image without it
        DownByAHair z = new DownByAHair();
        Tape.read(z, "bears 3;");
        z.image();
        Tape.read(z, "bears 4;");
        z.back();
        due("the next", Tape.read(z, "bears 5;"), 1);
        z.thing(1, 0);
        z.by(1);
        due("it rules", z.of(0, 3), 5);
        z.by(0);
        due("the image's too", z.of(0, 3), 3);
    }

    private static void tokens() {
        promise = 7;
        fault("", 0, -1);
        fault("put 0 on 0;take 11;wait 99;put 11 on 1;wait 0;", 0, -1);
        fault("put0on 1;wait\n3 ;take 00011;", 0, -1);
        fault("bears 09999;", 0, -1);
        fault("safe 1<=2 and 1<2 or 2>=1 and 2>1 and 1=1 and 1#2;", 0, -1);
        due("as few blanks as can be", ask("1<-2or 2<3and not 4<3"), true);
        due("<= is one", ask("1<=1"), true);
        due("sum", sum("2+3*4"), 14);
        due("from the left", sum("20-3-4"), 13);
        due("from the left", sum("100/7*7"), 98);
        due("product first", sum("2*3+4*5"), 26);
        due("bracket", sum("(2+3)*4"), 20);
        due("minus", sum("-2*-3"), 6);
        due("minus binds", sum("10--3-1"), 12);
        due("cuts towards 0", sum("10+-7/2"), 7);
        due("cuts towards 0", sum("10+7/-2"), 7);
        due("by 0", sum("5+7/0"), 5);
        due("by 0 of a sum", sum("5+7/(wet-4)"), 5);
        due("names", sum("hour*1000+wet*100+wind*10+thing"), 7381);
        due("names", sum("weight*100+sort*10+pan"), 531);
        due("9999 at most", sum("9999+1"), 9999);
        due("0 at least", sum("1-2"), 0);
        due("above 1000000", sum("9999*9999/1000"), 1000);
        due("at each step", sum("9999*9999-9999*99-9999"), 100);
        due("below the same less", sum("5000+-9999*9999/1000"), 4000);
        due("by steps", sum("9999*100+9999-9999*100"), 1000000 - 999900);
        due("a negative bracket", sum("-(1-8)"), 7);
        due("eight open", sum("((((((((7))))))))"), 7);
        due("eight minuses", sum("--------7"), 7);
        due("both kinds", sum("-(-(-(-(7))))"), 7);
        String deepest = "1+2*(".repeat(8) + "1+2*1" + ")".repeat(8);
        due("as much as can wait", sum(deepest), 1023);
        due("as much as can wait", ask("1=2 or 1=1 and 1023=" + deepest), true);
        due("as much as can wait", ask("1=2 or 1=1 and 1024=" + deepest), false);
        due("minuses wait too", sum("99+-(9+-(9+-(9+-1*2)*2)*2)*2"), 99 - 2 * (9 - 2 * (9 - 2 * (9 - 2))));
        due("loads", ask("left=20 and right=9"), true);
        due("moment", ask("moment=-7"), true);
        due("turned", ask("turned=7"), true);
        due("weather", ask("hour=7 and wet=4 and wind=-2"), true);
        due("unlike", ask("left#20"), false);
        due("less", ask("left<20"), false);
        due("at most", ask("left<=20"), true);
        due("more", ask("left>20"), false);
        due("at least", ask("left>=20"), true);
        for (String relation : new String[] {"<", "<=", "=", "#", ">=", ">"}) {
            boolean less = relation.charAt(0) == '<' || relation.equals("#");
            due("sums on both sides of " + relation, ask("9-3" + relation + "2+5*1"), less);
            due("a sum's sides of " + relation, ask("5-3" + relation + "2-1*0"), relation.endsWith("="));
            due("a sum behind " + relation, ask("9" + relation + "2+5"), relation.charAt(0) == '>' || relation.equals("#"));
        }
        due("and binds", ask("1=1 or 1=1 and 1=2"), true);
        due("and binds", ask("1=2 and 1=1 or 1=1"), true);
        due("not binds", ask("not 1=2 and 1=2"), false);
        due("not not", ask("not not 1=1"), true);
        due("not of an or", ask("not 1=1 or 1=1"), true);
        due("eight nots", ask("not not not not not not not not 1=1"), true);
        due("nots close", ask("not not not not not not not 1=2 or ((((((((1))))))))=1"), true);
    }

    private static void faults() {
        promise = 8;
        DownByAHair x = new DownByAHair();
        for (int what = -1; what <= 2; what++) due("ahead of any", x.fault(what), -1);
        Tape.read(x, "wait 1;");
        due("no fault", x.fault(0), 0);
        due("no place", x.fault(1), -1);
        due("others", x.fault(2), -1);
        due("others", x.fault(-1), -1);
        due("others", x.fault(MIN), -1);
        Tape.read(x, "wait 100;");
        due("fault", x.fault(0), 2);
        due("place", x.fault(1), 5);
        due("others", x.fault(2), -1);
        x.back();
        due("it is of no image", x.fault(0), 2);
        x.image();
        Tape.read(x, "wait 1;");
        x.back();
        due("the latest", x.fault(0), 0);

        fault("!", 1, 0);
        fault(" \n\t", 1, 2);
        fault("Bears 1;", 1, 0);
        fault("bears1;", 0, -1);
        fault("bearsx 1;", 1, 0);
        for (String letter : new String[] {"a", "z", "A", "Z"}) fault("wait" + letter + "1;", 1, 0);
        for (String other : new String[] {"`", "{", "@", "[", "_", "0x", "9x", ":", "."}) fault("wait" + other, 1, other.length() + 3);
        fault("wait/1;", 1, 4);
        fault("wait 1:", 1, 6);
        fault("1;", 1, 0);
        fault(";", 1, 0);
        fault("bears", 1, 5);
        fault("bears ", 1, 6);
        fault("bears ;", 1, 6);
        fault("bears 1", 1, 7);
        fault("bears 1 2;", 1, 8);
        fault("bears 1 hour;", 1, 8);
        fault("bears 1 left;", 1, 8);
        fault("bears 1+;", 1, 8);
        fault("bears +1;", 1, 6);
        fault("bears (1;", 1, 8);
        fault("bears 1);", 1, 7);
        fault("bears ();", 1, 7);
        fault("bears 1<2;", 1, 7);
        fault("bears 1 and 2;", 1, 8);
        fault("bears not 1;", 1, 6);
        fault("bears hours;", 1, 6);
        fault("bears Hour;", 1, 6);
        fault("bears on;", 1, 6);
        fault("bears 1 ! ;", 1, 8);
        fault("safe 1;", 1, 6);
        fault("safe 1<2<3;", 1, 8);
        fault("safe 1<2 and;", 1, 12);
        fault("safe 1<2 and 3;", 1, 14);
        fault("safe 1 and 2<3;", 1, 7);
        fault("safe (1<2);", 1, 7);
        fault("safe (not 1)<2;", 1, 6);
        fault("safe 1<not 2;", 1, 7);
        fault("safe not;", 1, 8);
        fault("safe 1<>2;", 1, 7);
        fault("safe 1==2;", 1, 7);
        fault("safe 1< =2;", 1, 8);
        fault("safe 1=<2;", 1, 7);
        fault("safe -not 1<2;", 1, 6);
        fault("put on 1;", 1, 4);
        fault("put 1 on on;", 1, 9);
        fault("put hour on 1;", 1, 4);
        fault("put 1 on 1", 1, 10);
        fault("put 1 in 1;", 1, 6);
        fault("put -1 on 1;", 1, 4);
        fault("take;", 1, 4);
        fault("take 1 2;", 1, 7);
        fault("wait 1", 1, 6);
        fault("wait 1\n\n ", 1, 9);
        fault("wait 1;;", 1, 7);
        fault("wait 1; 10000", 1, 8);

        fault("bears 10000;", 2, 6);
        fault("bears 1+99999999999999999999;", 2, 8);
        fault("bears 4294967297;", 2, 6);
        fault("bears 1 10000;", 1, 8);
        fault("put 12 on 2;", 2, 4);
        fault("put 11 on 2;", 2, 10);
        fault("put 10000 on 1;", 2, 4);
        fault("take 12;", 2, 5);
        fault("wait 100;", 2, 5);
        fault("wait 100", 2, 5);
        fault("wait 4294967296;", 2, 5);

        fault("bears ((((((((1))))))));", 0, -1);
        fault("bears (((((((((1)))))))));", 3, 14);
        fault("bears ---------1;", 3, 14);
        fault("bears (-(-(-(-(1)))));", 3, 14);
        fault("bears -1-1-1-1-1-1-1-1-1-1-1--1;", 0, -1);
        fault("bears (1)+(1)+(1)+(1)+(1)+(1)+(1)+(1)+(1)+(1);", 0, -1);
        fault("bears -(1)+-(1)+-(1)+-(1)+-(1)+-(1)+-(1);", 0, -1);
        fault("bears ((((((((1))))))))+((((((((1))))))))*--------1;", 0, -1);
        fault("safe not not not not not not not not not 1<2;", 3, 37);
        fault("safe not not not not not not not not -1<2;", 3, 37);
        fault("safe not not not not not not not not 1<(2);", 3, 39);
        fault("safe not not not not not not not not 1<2 and not 1<(2);", 0, -1);
        fault("safe not not not not not not not (1)<-2;", 0, -1);
        fault("safe not not not not not not not (-1)<2;", 3, 34);

        fault("bears 1;bears 1;", 4, 8);
        fault("safe 1=1;bears 1;safe", 4, 17);
        fault("bears bears;", 1, 6);

        fault("bears left;", 5, 6);
        fault("bears right;", 5, 6);
        fault("bears moment;", 5, 6);
        fault("bears 1+turned;", 5, 8);
        fault("safe thing<1;", 5, 5);
        fault("safe 1<weight;", 5, 7);
        fault("safe sort<1;", 5, 5);
        fault("safe (pan)<1;", 5, 6);
        fault("safe hour+wet+wind+left+right+moment+turned<1;", 0, -1);
        fault("bears hour+wet+wind+thing+weight+sort+pan;", 0, -1);

        String many = "wait 1;".repeat(24);
        fault(many, 0, -1);
        fault(many + "wait 1;", 6, 168);
        fault(many + " take", 6, 169);
        fault(many + "bears", 6, 168);
        fault(many + "x", 1, 168);
        fault(many + "wait 1;bears 1; bears 1;", 6, 168);
        fault("bears 1;" + "wait 1;".repeat(23) + "bears 1;", 4, 169);
        fault("wait 1;bears left+10000;!", 5, 13);
    }

    private static void by() {
        promise = 9;
        DownByAHair x = withThings(5);
        due("none there", x.by(0), false);
        due("none", x.by(-1), true);
        due("others", x.by(-2), false);
        Tape.read(x, "bears weight*2;");
        Tape.read(x, "bears weight*3;");
        due("not by itself", x.of(0, 3), 5);
        due("the second", x.by(1), true);
        due("about", x.about(8), 1);
        due("bears", x.of(0, 3), 15);
        due("the first", x.by(0), true);
        due("bears", x.of(0, 3), 10);
        due("others", x.by(2), false);
        due("others", x.by(MAX), false);
        due("others", x.by(MIN), false);
        due("it stays", x.about(8), 0);
        due("none again", x.by(-1), true);
        due("bears", x.of(0, 3), 5);
        due("about", x.about(8), -1);
    }

    private static void put() {
        promise = 10;
        DownByAHair x = withThings(5, 7, 9);
        due("put", x.put(0, 0), 5);
        due("put", x.put(2, 0), 14);
        due("put", x.put(1, 1), 7);
        due("lies already", x.put(1, 0), -1);
        due("lies already", x.put(1, 1), -1);
        due("steps", x.about(9), 3);
        DownByAHair y = ruled("safe left<=10 and right<=12;bears weight+pan;", 5, 5, 6, 1);
        int[][] others = {{4, 0}, {-1, 0}, {0, 2}, {0, -1}, {MIN, 0}, {MAX, 1}, {0, MAX}, {32, 0}, {11, 0}};
        for (int[] o : others) due("put " + o[0] + " " + o[1], y.put(o[0], o[1]), -1);
        due("safe at the edge", y.put(0, 0), 5);
        due("safe at the edge", y.put(1, 0), 10);
        due("not safe", y.put(3, 0), -1);
        due("nothing was done", y.about(12), 3);
        due("by the pan", y.put(2, 1), 7);
        due("by the pan", y.put(3, 1), 9);
        due("right", y.about(13), 12);
        // all must be safe, the other pan too, and a pan that is not can't be mended by what isn't enough
        DownByAHair z = ruled("safe turned<=30;", 5, 3, 2);
        z.by(-1);
        z.put(0, 0);
        z.by(0);
        due("not safe yet", z.now(4), 0);
        due("mended", z.put(2, 1), 2);
        due("safe", z.now(4), 1);
        due("unsafe", z.take(2), -1);
        DownByAHair nothing = ruled("bears 0;", 5);
        due("bears nothing", nothing.put(0, 1), 0);
    }

    private static void take() {
        promise = 11;
        DownByAHair x = withThings(5, 7);
        due("lies nowhere", x.take(0), -1);
        x.put(0, 0);
        x.put(1, 1);
        due("right", x.take(1), 1);
        due("left", x.take(0), 0);
        due("twice", x.take(0), -1);
        due("steps", x.about(9), 4);
        for (int thing : new int[] {-1, 2, 12, 31, 32, 33, MIN, MAX}) due("take " + thing, x.take(thing), -1);
        DownByAHair y = ruled("safe turned<=20;", 5, 7);
        y.by(-1);
        y.put(0, 0);
        y.put(1, 1);
        y.by(0);
        due("not safe then", y.take(0), -1);
        due("it lies yet", y.of(0, 2), 0);
        due("no step", y.about(9), 2);
        y.by(-1);
        due("safe then", y.take(0), 0);
        due("nowhere", y.of(0, 2), -1);
        DownByAHair z = ruled("safe left>=1;", 5);
        due("what isn't safe ahead of it counts not", z.put(0, 0), 5);
        due("empty isn't safe", z.take(0), -1);
    }

    private static void pass() {
        promise = 12;
        DownByAHair x = new DownByAHair();
        due("none", x.pass(0), 0);
        due("some", x.pass(23), 23);
        due("over", x.pass(1), 0);
        due("most", x.pass(99), 3);
        due("below", x.pass(-1), -1);
        due("above", x.pass(100), -1);
        due("far off", x.pass(MIN), -1);
        due("steps", x.about(9), 4);
        due("hour", x.about(4), 3);
        DownByAHair y = ruled("safe hour<1;");
        due("whatever is safe", y.pass(5), 5);
        due("unsafe", y.now(4), 0);
    }

    private static void played() {
        promise = 13;
        DownByAHair x = withThings(5, 7, 9);
        due("none there", x.played(0), -2);
        due("none", x.played(-1), -2);
        Tape.read(x, "bears weight;put 0 on 0;wait 3;safe 1=1;put 1 on 1;take 0;put 0 on 1;");
        due("all is done", x.played(0), -1);
        due("right", x.about(13), 3);
        due("hour", x.about(4), 3);
        due("steps", x.about(9), 5);
        due("a text that is played doesn't rule", x.about(8), -1);
        due("ends at the first put", x.played(0), 1);
        due("no step", x.about(9), 5);
        Tape.read(x, "wait 1;take 0;put 0 on 0;put 11 on 0;wait 5;");
        due("no such thing", x.played(1), 3);
        due("what was done stays", x.about(12), 1);
        due("hour", x.about(4), 4);
        Tape.read(x, "bears 1;safe 1=1;");
        due("nothing to do", x.played(2), -1);
        Tape.read(x, "");
        due("empty", x.played(3), -1);
        due("others", x.played(4), -2);
        due("others", x.played(MIN), -2);
        due("others", x.played(MAX), -2);
        // by the laws of the text that rules, not of the one that is played
        DownByAHair y = ruled("safe left<=5;", 5, 7);
        Tape.read(y, "put 0 on 0;put 1 on 0;safe 1=2;");
        due("not safe", y.played(1), 1);
        due("left", y.about(12), 1);
        DownByAHair z = withThings(1);
        Tape.read(z, "put 0 on 0;put 0 on 1;");
        due("lies already", z.played(0), 1);
        Tape.read(z, "take 0;take 0;");
        due("lies nowhere", z.played(1), 1);
        // the hour that was waited for counts for what comes behind
        DownByAHair w = ruled("safe hour<3;put 0 on 0;wait 3;take 0;", 4);
        due("not safe any more", w.played(0), 3);
    }

    private static void undo() {
        promise = 14;
        DownByAHair x = withThings(5, 7);
        due("none", x.undo(), -1);
        x.put(0, 0);
        x.put(1, 1);
        x.take(0);
        x.pass(5);
        due("hours", x.undo(), 3);
        due("hour", x.about(4), 0);
        due("taken", x.undo(), 2);
        due("lies again", x.about(12), 1);
        due("put", x.undo(), 1);
        due("right", x.about(13), 0);
        due("put", x.undo(), 0);
        due("left", x.about(12), 0);
        due("none", x.undo(), -1);
        for (int i = 0; i < 41; i++) x.pass(1);
        due("the latest 40", x.about(9), 40);
        due("hour", x.about(4), 17);
        for (int i = 39; i >= 0; i--) due("taken back", x.undo(), i);
        due("no more", x.undo(), -1);
        due("the first stays", x.about(4), 1);
        // the hour is as ahead of the step, also of a put, and whatever the weather was told to be since
        x.weather(4, 0, 0);
        x.put(0, 0);
        x.weather(9, 2, 3);
        x.undo();
        due("hour ahead of it", x.about(4), 4);
        due("wet stays", x.about(5), 2);
        due("wind stays", x.about(6), 3);
        // what is safe isn't asked
        DownByAHair y = ruled("safe left>=5;", 5);
        y.put(0, 0);
        due("taken back", y.undo(), 0);
        due("left", y.about(12), 0);
        due("unsafe", y.now(4), 0);
        // played steps are taken back one by one
        DownByAHair z = withThings(5);
        Tape.read(z, "put 0 on 1;wait 30;");
        z.played(0);
        due("wait", z.undo(), 1);
        due("hour", z.about(4), 0);
        due("lies", z.about(13), 1);
    }

    private static void of() {
        promise = 15;
        DownByAHair x = ruled("bears weight*(1+pan)+thing;", 5, 7);
        x.put(1, 1);
        int[][] due = {{5, 0, -1, 5, 10}, {7, 0, 1, 8, 15}};
        for (int thing = 0; thing < 2; thing++) {
            for (int what = 0; what < 5; what++) due("of " + thing + " " + what, x.of(thing, what), due[thing][what]);
        }
        for (int what : new int[] {-1, 5, MIN, MAX}) due("of 0 " + what, x.of(0, what), -2);
        for (int thing : new int[] {-1, 2, 12, MIN, MAX}) due("of " + thing, x.of(thing, 0), -2);
        x.put(0, 0);
        due("left", x.of(0, 2), 0);
        x.by(-1);
        due("without a text", x.of(0, 4), 5);
        DownByAHair y = ruled("safe 1=1;", 5);
        due("without bears", y.of(0, 3), 5);
    }

    private static void now() {
        promise = 16;
        DownByAHair x = withThings(5, 7, 20);
        x.beam(3, 2, 4);
        x.put(0, 0);
        x.put(1, 1);
        due("left", x.now(0), 5);
        due("right", x.now(1), 7);
        due("moment", x.now(2), 1);
        due("level", x.now(3), 0);
        x.weather(0, 0, 1);
        due("wind", x.now(2), 11);
        due("down to the left", x.now(3), 1);
        x.beam(3, 2, 11);
        due("level at the edge", x.now(3), 0);
        x.weather(0, 0, -2);
        due("moment", x.now(2), -19);
        due("down to the right", x.now(3), 2);
        x.beam(3, 2, 19);
        due("level at the edge", x.now(3), 0);
        due("safe", x.now(4), 1);
        Tape.read(x, "bears weight+hour+wind;safe moment<0;");
        x.by(0);
        due("by the text", x.now(0), 3);
        due("safe", x.now(4), 1);
        x.weather(0, 0, 9);
        due("unsafe", x.now(4), 0);
        for (int what : new int[] {-1, 5, MIN, MAX}) due("now " + what, x.now(what), -100000000);
        DownByAHair y = withThings(999, 999, 999, 999, 999, 999, 999, 999, 999, 999, 999, 999);
        Tape.read(y, "bears 9999;safe moment=1000*1000 and turned=1000*1000;");
        y.by(0);
        y.beam(99, 1, 9999);
        due("not so heavy", y.now(4), 0);
        y.by(-1);
        for (int i = 0; i < 12; i++) y.put(i, 0);
        y.by(0);
        due("the greatest load", y.now(0), 119988);
        due("the greatest moment", y.now(2), 11878812);
        due("names too are held", y.now(4), 1);
    }

    private static void loadings() {
        promise = 17;
        DownByAHair x = withThings(1, 2, 3, 4, 5, 6, 7, 8, 9, 10, 11, 12);
        due("ten", x.loadings(1023, 0), 3628800);
        due("ten of twelve", x.loadings(4092, 2048), 3628800);
        due("eleven", x.loadings(2047, 0), -1);
        due("none", x.loadings(0, 0), 1);
        due("pans of others", x.loadings(1, 2), -1);
        due("pans of others", x.loadings(0, 1), -1);
        due("pans far off", x.loadings(1, MIN), -1);
        due("no such thing", x.loadings(4096, 0), -1);
        due("no such thing", x.loadings(MIN, 0), -1);
        due("all bits", x.loadings(-1, 0), -1);
        x.put(0, 0);
        due("in a pan", x.loadings(1, 0), -1);
        due("the others", x.loadings(6, 2), 2);
        due("nothing changes", x.about(12), 1);
        due("no step", x.about(9), 1);
        // 4 left, 3 right, 2 left within 35: 4 can't be first, nor 4 and 2 lie without 3
        DownByAHair y = ruled("safe turned<=35;", 4, 3, 2);
        due("some orders", y.loadings(7, 2), 3);
        due("none is safe", y.loadings(5, 0), 0);
        due("behind each", y.loadings(1, 0), 0);
        y.by(-1);
        due("without a text", y.loadings(7, 2), 6);
        DownByAHair z = ruled("safe 1=2;", 4);
        due("nothing is laid", z.loadings(0, 0), 1);
        // what lies counts
        DownByAHair w = ruled("safe turned<=35;", 4, 3, 3);
        w.put(1, 1);
        due("what lies now", w.loadings(1, 0), 1);
        due("and two", w.loadings(5, 0), 0);
    }

    private static void gentle() {
        promise = 18;
        DownByAHair x = withThings(4, 3, 2);
        // 2 left: 20, 3 right: -10, 4 left: 30; 3 first makes 30, then 2 or 4; 2 first is within 30 too
        due("least turn", x.gentle(7, 2, -1), 30);
        due("first", x.gentle(7, 2, 0), 1);
        due("second", x.gentle(7, 2, 1), 0);
        due("third", x.gentle(7, 2, 2), 2);
        due("fourth", x.gentle(7, 2, 3), -1);
        due("others", x.gentle(7, 2, -2), -1);
        due("others", x.gentle(7, 2, MAX), -1);
        due("others", x.gentle(7, 2, MIN), -1);
        due("no such thing", x.gentle(8, 0, -1), -1);
        due("pans of others", x.gentle(1, 2, -1), -1);
        due("nothing", x.gentle(0, 0, -1), 0);
        due("none behind", x.gentle(0, 0, 0), -1);
        due("like ones", x.gentle(5, 4, 0), 2);
        due("like ones", x.gentle(6, 0, 0), 1);
        x.put(2, 0);
        due("in a pan", x.gentle(4, 0, -1), -1);
        due("what lies now", x.gentle(3, 2, -1), 30);
        due("by it", x.gentle(3, 2, 0), 1);
        DownByAHair y = ruled("safe turned<=35 and not right=3;", 4, 3, 2);
        due("none is safe", y.gentle(7, 2, -1), -1);
        due("none is safe", y.gentle(7, 2, 0), -1);
        DownByAHair z = ruled("safe left#2;", 4, 3, 2);
        due("safe orders alone", z.gentle(7, 2, -1), 30);
        due("first", z.gentle(7, 2, 0), 1);
        DownByAHair w = withThings(5, 5, 5, 5);
        w.weather(0, 0, -5);
        due("wind counts", w.gentle(15, 10, -1), 50);
        due("first", w.gentle(15, 10, 0), 0);
        due("second", w.gentle(15, 10, 1), 1);
        due("third", w.gentle(15, 10, 2), 2);
        due("fourth", w.gentle(15, 10, 3), 3);
        DownByAHair v = withThings(1, 1, 1, 1, 1, 1, 1, 1, 1, 1, 1);
        due("ten", v.gentle(2046, 0x554, -1), 10);
        due("last", v.gentle(2046, 0x554, 9), 10);
        due("eleven", v.gentle(2047, 0, -1), -1);
    }

    private static void reading() {
        promise = 19;
        DownByAHair x = withThings(5);
        for (int[] o : new int[][] {{-1, 0}, {2, 0}, {0, -1}, {0, 3}, {MIN, 0}, {0, MAX}}) {
            due("reading " + o[0] + " " + o[1], x.reading(o[0], o[1]), -1);
        }
        due("none", x.about(10), 0);
        for (int i = 1; i <= 10; i++) due("reading", x.reading(i % 2, i % 3), i);
        due("the 11th", x.reading(0, 0), -1);
        due("ten", x.about(10), 10);
        due("no step", x.about(9), 0);
    }

    private static void forget() {
        promise = 20;
        DownByAHair x = new DownByAHair();
        due("none", x.forget(), 0);
        x.reading(0, 0);
        x.reading(0, 2);
        due("a span of none", x.span(0), 0);
        due("two", x.forget(), 2);
        due("none", x.about(10), 0);
        due("all again", x.span(0), 999);
        due("again", x.reading(0, 1), 1);
    }

    private static void span(DownByAHair x, int count, int least, int greatest) {
        due("span: how many", x.span(0), count);
        due("span: the least", x.span(1), least);
        due("span: the greatest", x.span(2), greatest);
    }

    private static void span() {
        promise = 21;
        DownByAHair x = withThings(50, 7);
        span(x, 999, 1, 999);
        x.beam(2, 1, 6);
        x.put(0, 1);
        // 2 X - 50 is within 6
        x.reading(0, 0);
        span(x, 7, 22, 28);
        // arms, dull and weather as they were then
        x.beam(99, 1, 9999);
        x.weather(3, 3, 9);
        x.take(0);
        span(x, 7, 22, 28);
        x.weather(0, 0, -9);
        x.beam(4, 1, 0);
        // 4 X - 90 is above 0
        x.reading(0, 1);
        span(x, 6, 23, 28);
        x.put(1, 0);
        // 28 - 90 - X is below 0
        x.reading(1, 2);
        span(x, 6, 23, 28);
        x.reading(0, 2);
        span(x, 0, -1, -1);
        x.forget();
        for (int what : new int[] {-1, 3, MIN, MAX}) due("span " + what, x.span(what), -1);
        // X is borne by the text as it is now at the weather as it was then; what lay weighs as it did then
        DownByAHair y = ruled("bears weight+10*wet+1000*(thing-12)*(thing-12)*(thing-7)+sort+pan;", 40);
        y.by(-1);
        y.weather(0, 2, 0);
        y.put(0, 1);
        y.reading(0, 0);
        span(y, 1, 40, 40);
        y.by(0);
        y.weather(0, 0, 0);
        span(y, 1, 20, 20);
        Tape.read(y, "bears weight/4;");
        y.by(1);
        span(y, 4, 160, 163);
        y.forget();
        y.take(0);
        y.put(0, 0);
        // 40 / 4 in the left pan, when it was read; X in the right by the other text: X + 1
        y.reading(1, 0);
        y.by(0);
        span(y, 1, 9, 9);
        // gaps within a span
        DownByAHair z = ruled("bears (weight-5)*(weight-5);", 16);
        z.by(-1);
        z.put(0, 0);
        z.reading(1, 0);
        z.by(0);
        span(z, 2, 1, 9);
    }

    private static void bent() {
        promise = 22;
        DownByAHair x = withThings(6);
        due("all", x.bent(1, 0), 400);
        due("the first", x.bent(999, 1), 101);
        for (int[] o : new int[][] {{0, 0}, {1000, 0}, {MIN, 0}, {MAX, 1}, {5, 2}, {5, -1}, {5, MIN}}) {
            due("bent " + o[0] + " " + o[1], x.bent(o[0], o[1]), -1);
        }
        x.put(0, 0);
        x.reading(1, 0);
        // 6 l = 4 r: (2, 3), (4, 6), .., (12, 18)
        due("some", x.bent(4, 0), 6);
        due("the first", x.bent(4, 1), 203);
        due("none", x.bent(999, 0), 0);
        due("no first", x.bent(999, 1), -1);
        // the dull and the wind of then
        x.beam(7, 9, 9999);
        x.weather(0, 0, 9);
        due("as then", x.bent(4, 0), 6);
        due("both edges", x.bent(6, 0), 20);
        x.weather(0, 0, 2);
        x.beam(1, 1, 0);
        x.reading(1, 1);
        // 6 l - 6 r + 20 is above 0 where 6 l = 6 r
        due("two readings", x.bent(6, 0), 20);
        x.weather(0, 0, 0);
        x.reading(1, 2);
        due("against it", x.bent(6, 0), 0);
        due("against it", x.bent(1, 1), -1);
        // X as thing 12 of sort 0 by the text now
        DownByAHair y = ruled("bears weight*2+thing-12+sort;", 6);
        y.by(-1);
        y.put(0, 0);
        y.reading(1, 0);
        y.by(0);
        due("by the text", y.bent(2, 1), 203);
    }

    private static void balanced(DownByAHair x, int load, int count, int used, int beside) {
        due("balanced " + load + " 0", x.balanced(load, 0), count);
        due("balanced " + load + " 1", x.balanced(load, 1), used);
        due("balanced " + load + " 2", x.balanced(load, 2), beside);
    }

    private static void balanced() {
        promise = 23;
        DownByAHair x = withThings(1, 3, 9, 27);
        balanced(x, 1, 1, 1, 0);
        balanced(x, 2, 2, 3, 1);
        balanced(x, 40, 4, 15, 0);
        balanced(x, 14, 4, 15, 7);
        balanced(x, 41, -1, -1, -1);
        for (int[] o : new int[][] {{0, 0}, {1000, 0}, {-1, 0}, {MIN, 0}, {MAX, 0}, {1, -1}, {1, 3}, {1, MAX}}) {
            due("balanced " + o[0] + " " + o[1], x.balanced(o[0], o[1]), -1);
        }
        due("no things", new DownByAHair().balanced(1, 0), -1);
        // the fewest first, then the lowest set
        DownByAHair y = withThings(1, 1, 1, 3, 2, 3);
        balanced(y, 3, 1, 8, 0);
        balanced(y, 2, 1, 16, 0);
        balanced(y, 4, 2, 9, 0);
        balanced(y, 5, 2, 24, 0);
        // 700 is 700 + 150 - 100 - 50 too, and 700 + 100 + 50 - 150
        DownByAHair z = withThings(50, 100, 150, 700);
        balanced(z, 700, 1, 8, 0);
        // 1 is 4 less either 3: the lower one is used
        DownByAHair w = withThings(3, 3, 4);
        balanced(w, 1, 2, 5, 1);
        // several lie beside the load
        DownByAHair v = withThings(401, 401, 100, 200, 300);
        balanced(v, 202, 5, 31, 28);
        balanced(v, 802, 2, 3, 0);
        // twelve things
        DownByAHair u = withThings(999, 999, 999, 999, 999, 999, 999, 999, 999, 999, 999, 998);
        balanced(u, 1, 2, 2049, 2048);
        balanced(u, 999, 1, 1, 0);
        balanced(u, 500, -1, -1, -1);
        DownByAHair all = withThings(83, 83, 83, 83, 83, 83, 83, 83, 83, 83, 83, 83);
        balanced(all, 996, 12, 4095, 0);
        // weights alone, whatever the text and the pans say
        DownByAHair t = ruled("bears 500;", 7, 2);
        t.put(0, 0);
        balanced(t, 5, 2, 3, 2);
    }

    private static void weights() {
        promise = 24;
        DownByAHair x = new DownByAHair();
        for (int n = 1; n <= 40; n++) {
            int[] due = Model.cover(n);
            due("how many for " + n, x.weights(n, -1), due.length);
            for (int i = 0; i < 6; i++) due("weight " + i + " for " + n, x.weights(n, i), i < due.length ? due[i] : -1);
        }
        for (int n : new int[] {0, 41, -1, MIN, MAX}) {
            due("weights " + n, x.weights(n, -1), -1);
            due("weights " + n, x.weights(n, 0), -1);
        }
        for (int i : new int[] {-2, 4, MIN, MAX}) due("the " + i, x.weights(40, i), -1);
    }

    private static void rest() {
        promise = 25;
        DownByAHair x = withThings(8, 3);
        // winds by seed 0: 8, 4, -8 (X: 17, 2882, 30002)
        x.beam(10, 10, 80);
        due("all", x.rest(0, 3, 0), 3);
        x.beam(10, 10, 79);
        due("one", x.rest(0, 3, 0), 1);
        due("row", x.rest(0, 3, 1), 1);
        x.put(0, 1);
        // moments 0, -40, -160
        x.beam(10, 10, 0);
        due("first", x.rest(0, 1, 0), 1);
        x.beam(10, 10, 40);
        due("row of two", x.rest(0, 3, 1), 2);
        due("two", x.rest(0, 3, 0), 2);
        x.weather(5, 5, 5);
        due("the wind that is counts not", x.rest(0, 3, 0), 2);
        due("and stays", x.about(6), 5);
        due("the hour stays", x.about(4), 5);
        for (int[] o : new int[][] {{-1, 1, 0}, {10000, 1, 0}, {0, 0, 0}, {0, 100, 0}, {0, 1, -1}, {0, 1, 2}, {MIN, 1, 0}, {0, MIN, 0}, {0, 1, MAX}}) {
            due("rest " + o[0] + " " + o[1] + " " + o[2], x.rest(o[0], o[1], o[2]), -1);
        }
        // seed 9999: X 70010, wind 5; then (70010 * 167 + 43) mod 30089 = 17181, wind -4
        DownByAHair y = new DownByAHair();
        y.beam(1, 1, 40);
        due("the last seed", y.rest(9999, 1, 0), 0);
        due("its second hour", y.rest(9999, 2, 0), 1);
        // 500 is borne at the hours 22, 23, 0 and 1 alone; wind makes 90 at most
        DownByAHair w = ruled("bears 500*(hour/22)+500*(1-(hour+22)/24);", 1);
        w.put(0, 0);
        w.weather(21, 0, 0);
        w.beam(1, 1, 400);
        due("over midnight", w.rest(3, 24, 0), 20);
        due("the longest row", w.rest(3, 24, 1), 19);
        w.weather(22, 0, 0);
        due("the longest row", w.rest(3, 24, 1), 20);
        // what is borne by that wind takes away again what the wind adds
        DownByAHair v = ruled("bears 100+wind;", 1);
        v.put(0, 1);
        v.beam(1, 10, 1000);
        due("wind in the law", v.rest(77, 99, 0), 99);
        v.beam(1, 10, 999);
        due("just so", v.rest(77, 99, 0), 0);
    }

    private static void image() {
        promise = 26;
        DownByAHair x = withThings(5, 6);
        due("image", x.image(), 2);
        x.thing(7, 0);
        due("image", x.image(), 3);
        x.thing(8, 0);
        due("back to the latest", x.back(), 3);
        due("nothing else", x.about(0), 3);
    }

    private static void back() {
        promise = 27;
        DownByAHair x = withThings(5, 6);
        x.beam(2, 3, 4);
        x.weather(5, 6, 7);
        Tape.read(x, "bears weight*2;");
        x.by(0);
        x.put(0, 0);
        x.put(1, 1);
        x.reading(0, 1);
        x.image();
        int[] due = new int[14];
        for (int what = 0; what < 14; what++) due[what] = x.about(what);
        int span = x.span(0);
        for (int round = 0; round < 2; round++) {
            x.thing(9, 9);
            x.beam(9, 9, 9);
            x.weather(1, 1, 1);
            x.undo();
            x.undo();
            x.pass(3);
            x.put(2, 0);
            x.forget();
            x.reading(1, 2);
            x.reading(1, 2);
            Tape.read(x, round == 0 ? "bears 77;" : "bears 78;");
            x.by(1);
            due("the new text rules", x.of(0, 3), 77 + round);
            due("back", x.back(), 2);
            for (int what = 0; what < 14; what++) due("about " + what, x.about(what), due[what]);
            due("the text rules again", x.of(0, 3), 10);
            due("readings", x.span(0), span);
            due("no third thing", x.of(2, 0), -2);
        }
        due("steps are back", x.undo(), 1);
        due("what lay", x.about(13), 0);
        due("what lay", x.about(12), 1);
        readingsAreKept();
        // the tape and the fault are of no image
        Tape.lay(x, "bears 1;");
        x.image();
        x.end(3);
        x.back();
        due("the tape stays", x.about(11), 3);
        due("text", x.text(), -1);
        x.back();
        due("the fault stays", x.fault(0), 1);
        due("its place", x.fault(1), 0);
    }

    /** Each part of a reading is told in its span or its arms: they are as ahead of another reading in its place. */
    private static void readingsAreKept() {
        DownByAHair x = ruled("bears weight+hour*2+wet*3+wind*4+pan;", 70, 40);
        x.beam(3, 2, 25);
        x.weather(5, 4, 3);
        x.put(0, 0);
        x.put(1, 1);
        x.reading(1, 0);
        // 3 * 104 - 2 * (75 + X + 35) + 30 is within 25: X is 49 to 73
        span(x, 25, 49, 73);
        int bent = x.bent(60, 0);
        int first = x.bent(60, 1);
        x.image();
        x.forget();
        x.beam(9, 8, 7);
        x.weather(6, 5, 1);
        x.take(0);
        x.take(1);
        x.reading(0, 1);
        span(x, 999, 1, 999);
        x.back();
        span(x, 25, 49, 73);
        due("bent", x.bent(60, 0), bent);
        due("bent first", x.bent(60, 1), first);
        x.forget();
        for (int i = 0; i < 10; i++) x.reading(0, 2);
        due("back", x.back(), 2);
        due("one reading", x.about(10), 1);
        span(x, 25, 49, 73);
    }

    private static void about() {
        promise = 28;
        DownByAHair x = withThings(5, 6, 7);
        x.beam(2, 3, 4);
        x.weather(5, 6, -7);
        Tape.read(x, "safe 1=1;");
        Tape.read(x, "safe 1=1;");
        x.by(1);
        x.put(0, 0);
        x.put(2, 0);
        x.put(1, 1);
        x.pass(2);
        x.reading(0, 0);
        x.feed(1, 2, 3, 4, 5);
        int[] due = {3, 2, 3, 4, 7, 6, -7, 2, 1, 4, 1, 20, 5, 2};
        for (int what = 0; what < due.length; what++) due("about " + what, x.about(what), due[what]);
        for (int what : new int[] {-1, 14, MIN, MAX}) due("about " + what, x.about(what), -100);
    }

    public static void main(String[] args) {
        newObject();
        beam();
        thing();
        weather();
        feed();
        end();
        text();
        tokens();
        faults();
        by();
        put();
        take();
        pass();
        played();
        undo();
        of();
        now();
        loadings();
        gentle();
        reading();
        forget();
        span();
        bent();
        balanced();
        weights();
        rest();
        image();
        back();
        about();
        System.out.println(wrong == 0 ? "all promises are kept" : wrong + " answers are not as due");
        if (wrong != 0) System.exit(1);
    }
}
