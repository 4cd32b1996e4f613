import java.util.Random;

/** Runs of calls by chance, the same on the class and on the model: every answer must be the same. */
public final class ModelTest {
    private static final int RUNS = 600;
    private static final int CALLS = 512;
    private static int wrong = 0;

    private final Random random;
    private final TextMaker texts;
    private final DownByAHair x = new DownByAHair();
    private final Model m = new Model();
    private final StringBuilder calls = new StringBuilder();
    private boolean off;

    private ModelTest(int seed) {
        random = new Random(seed);
        texts = new TextMaker(random);
    }

    private void same(String call, long got, long want) {
        calls.append(call).append(" = ").append(got).append('\n');
        if (got != want && !off) {
            off = true;
            wrong++;
            System.out.println(calls + "due is " + want);
        }
    }

    private void same(String call, boolean got, boolean want) {
        same(call, got ? 1 : 0, want ? 1 : 0);
    }

    /** A number from least to most, now and then one just beside these or far from them. */
    private int pick(int least, int most) {
        int dice = random.nextInt(60);
        if (dice == 0) return least - 1;
        if (dice == 1) return most + 1;
        if (dice == 2) return random.nextInt();
        if (dice == 3) return least;
        if (dice == 4) return most;
        return least + random.nextInt(most - least + 1);
    }

    private void read() {
        String text = texts.make();
        int at = 0;
        if (random.nextInt(10) > 0) {
            x.end(0);
            m.end(0);
        } else {
            at = m.tape.length();
        }
        for (int from = 0; from < text.length(); from += 20) {
            int[] w = Tape.words(text, from);
            same("feed " + text, x.feed(w[0], w[1], w[2], w[3], w[4]), m.feed(w));
        }
        int n = pick(at + text.length(), at + text.length());
        same("end " + n, x.end(n), m.end(n));
        if (random.nextInt(12) == 0) return;
        same("text " + text, x.text(), m.text());
        same("fault 0", x.fault(0), m.fault(0));
        same("fault 1", x.fault(1), m.fault(1));
    }

    private void load() {
        int free = (1 << m.about(0)) - 1 & ~(m.about(12) | m.about(13));
        int set = random.nextInt(4096) & free;
        while (Integer.bitCount(set) > 6) set &= random.nextInt();
        if (random.nextInt(15) == 0) set |= 1 << random.nextInt(32);
        int pans = random.nextInt() & (random.nextInt(15) == 0 ? 4095 : set);
        if (Integer.bitCount(set) > 6) return;
        int what = pick(-1, Integer.bitCount(set));
        same("loadings " + set + " " + pans, x.loadings(set, pans), m.loadings(set, pans));
        same("gentle " + set + " " + pans + " " + what, x.gentle(set, pans, what), m.gentle(set, pans, what));
        same("gentle " + set + " " + pans + " -1", x.gentle(set, pans, -1), m.gentle(set, pans, -1));
        same("gentle " + set + " " + pans + " 0", x.gentle(set, pans, 0), m.gentle(set, pans, 0));
    }

    private void tell() {
        int a = random.nextInt(4) == 0 ? pick(1, 99) : 1 + random.nextInt(12);
        int b = random.nextInt(4) == 0 ? pick(1, 99) : 1 + random.nextInt(12);
        int dull = random.nextInt(2) == 0 ? pick(0, 9999) : random.nextInt(200);
        int hour = pick(0, 23);
        int wet = pick(0, 9);
        int wind = pick(-9, 9);
        int text = pick(-1, m.about(7) - 1);
        switch (random.nextInt(4)) {
            case 0 -> same("beam " + a + " " + b + " " + dull, x.beam(a, b, dull), m.beam(a, b, dull));
            case 1 -> same("weather " + hour + " " + wet + " " + wind, x.weather(hour, wet, wind), m.weather(hour, wet, wind));
            default -> same("by " + text, x.by(text), m.by(text));
        }
    }

    private void step() {
        int thing = pick(0, Math.max(0, m.about(0) - 1));
        int pan = pick(0, 1);
        int hours = pick(0, 99);
        int text = pick(0, Math.max(0, m.about(7) - 1));
        switch (random.nextInt(8)) {
            case 0, 1, 2 -> same("put " + thing + " " + pan, x.put(thing, pan), m.put(thing, pan));
            case 3 -> same("take " + thing, x.take(thing), m.take(thing));
            case 4 -> same("pass " + hours, x.pass(hours), m.pass(hours));
            case 5, 6 -> same("played " + text, x.played(text), m.played(text));
            default -> same("undo", x.undo(), m.undo());
        }
    }

    private void look() {
        int thing = pick(0, Math.max(0, m.about(0) - 1));
        int what = pick(0, 4);
        int load = pick(1, 999);
        int two = pick(0, 2);
        int seed = pick(0, 9999);
        int n = pick(1, 99);
        switch (random.nextInt(7)) {
            case 0, 1 -> same("of " + thing + " " + what, x.of(thing, what), m.of(thing, what));
            case 2, 3 -> same("now " + what, x.now(what), m.now(what));
            case 4 -> {
                if (m.about(0) <= 8 || random.nextInt(20) == 0) {
                    int small = random.nextInt(2) == 0 ? load : 1 + random.nextInt(60);
                    same("balanced " + small + " " + two, x.balanced(small, two), m.balanced(small, two));
                }
            }
            default -> same("rest " + seed + " " + n + " " + two, x.rest(seed, n, two), m.rest(seed, n, two));
        }
    }

    private void guess() {
        int pan = pick(0, 1);
        int beam = random.nextInt(3) == 0 ? pick(0, 2) : 1 + random.nextInt(2);
        int weight = random.nextInt(2) == 0 ? 1 + random.nextInt(60) : pick(1, 999);
        int what = pick(0, 2);
        switch (random.nextInt(7)) {
            case 0, 1, 2 -> same("reading " + pan + " " + beam, x.reading(pan, beam), m.reading(pan, beam));
            case 3 -> same("span " + what, x.span(what), m.span(what));
            case 4, 5 -> same("bent " + weight + " " + what, x.bent(weight, what), m.bent(weight, what));
            default -> {
                if (random.nextInt(3) == 0) same("forget", x.forget(), m.forget());
            }
        }
    }

    private void keep() {
        if (random.nextInt(3) == 0) same("image", x.image(), m.image());
        else if (random.nextInt(3) == 0) same("back", x.back(), m.back());
    }

    private void aboutAll() {
        for (int what = -1; what <= 14; what++) same("about " + what, x.about(what), m.about(what));
        for (int what = -1; what <= 5; what++) same("now " + what, x.now(what), m.now(what));
    }

    private void run() {
        boolean light = random.nextBoolean();
        for (int i = 0; i < CALLS && !off; i++) {
            int weight = light ? 1 + random.nextInt(30) : pick(1, 999);
            int sort = pick(0, 9);
            switch (random.nextInt(20)) {
                case 0 -> same("thing " + weight + " " + sort, x.thing(weight, sort), m.thing(weight, sort));
                case 1, 2 -> read();
                case 3, 4, 5 -> tell();
                case 6 -> load();
                case 7, 8, 9, 10, 11, 12 -> step();
                case 13, 14, 15 -> look();
                case 16, 17 -> guess();
                case 18 -> keep();
                default -> aboutAll();
            }
        }
        aboutAll();
    }

    private void readText(String text) {
        Tape.lay(x, text);
        m.tape = text;
        same("text " + text, x.text(), m.text());
        same("fault 0", x.fault(0), m.fault(0));
        same("fault 1", x.fault(1), m.fault(1));
    }

    /** Laws that forbid some orders and let others be. */
    private void runOrders() {
        int things = 3 + random.nextInt(4);
        for (int i = 0; i < things; i++) {
            int weight = 1 + random.nextInt(40);
            same("thing " + weight, x.thing(weight, i), m.thing(weight, i));
        }
        String bears = random.nextBoolean() ? "bears weight + sort * pan - hour / 2;" : "";
        readText(bears + "safe turned <= " + (100 + random.nextInt(500)) + " and not left - right > " + random.nextInt(50)
            + " or right = " + random.nextInt(60) + " or left > " + (20 + random.nextInt(60)) + ";");
        for (int i = 0; i < 40 && !off; i++) {
            int text = random.nextInt(6) == 0 ? -1 : 0;
            int hour = random.nextInt(24);
            int wind = random.nextInt(19) - 9;
            same("by " + text, x.by(text), m.by(text));
            same("weather " + hour + " 0 " + wind, x.weather(hour, 0, wind), m.weather(hour, 0, wind));
            if (random.nextInt(3) == 0) step();
            int free = (1 << things) - 1 & ~(m.about(12) | m.about(13));
            int set = random.nextInt(5) == 0 ? random.nextInt() & free : free;
            int pans = random.nextInt() & set;
            same("loadings " + set + " " + pans, x.loadings(set, pans), m.loadings(set, pans));
            for (int what = -1; what <= Integer.bitCount(set); what++) {
                same("gentle " + set + " " + pans + " " + what, x.gentle(set, pans, what), m.gentle(set, pans, what));
            }
        }
    }

    /** Many texts on one object: the image is that of the new one, so there is always room for the next. */
    private void runTexts() {
        for (int i = 0; i < 300 && !off; i++) {
            readText(i % 3 == 0 ? texts.makeDeep() : texts.make());
            if (m.about(7) == 4) same("back", x.back(), m.back());
        }
    }

    public static void main(String[] args) {
        int first = args.length > 0 ? Integer.parseInt(args[0]) : 0;
        int runs = args.length > 1 ? Integer.parseInt(args[1]) : RUNS;
        for (int seed = first; seed < first + runs && wrong < 3; seed++) {
            new ModelTest(seed).run();
            new ModelTest(seed).runOrders();
            new ModelTest(seed).runTexts();
        }
        System.out.println(wrong == 0 ? runs + " runs answer as the model does" : wrong + " runs do not answer as the model does");
        if (wrong != 0) System.exit(1);
    }
}
