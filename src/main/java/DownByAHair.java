/** A balance with two arms and two pans; ../shared/DOC.md says what each call answers and does. */
public final class DownByAHair {
    public static final int NONE = -1;

    private static final int LEFT_PAN = 0;
    private static final int RIGHT_PAN = 1;
    private static final int MOST_THINGS = 12;
    private static final int MOST_WEIGHT = 999;
    private static final int MOST_SORT = 9;
    private static final int MOST_BORNE = 9999;
    private static final int MOST_ARM = 99;
    private static final int MOST_DULL = 9999;
    private static final int MOST_WET = 9;
    private static final int MOST_WIND = 9;
    private static final int HOURS = 24;
    private static final int MOST_WAIT = 99;
    private static final int MOST_STEPS = 40;
    private static final int MOST_TEXTS = 4;
    private static final int TAPE_BYTES = 300;
    private static final int FED_BYTES = 20;
    private static final int MOST_CLAUSES = 24;
    private static final int MOST_NUMBER = 9999;
    private static final int MOST_OPEN = 8;
    private static final int MOST_VALUE = 1000000;
    private static final int MOST_LOADED = 10;
    private static final int MOST_READINGS = 10;
    private static final int UNKNOWN_THING = 12;
    private static final int MOST_BENT_ARM = 20;
    private static final int MOST_SEED = 9999;
    private static final int MOST_REST = 99;
    private static final int MOST_COVERED = 40;

    /**
     * Operations, in the order in which they bind: from OR, the loosest, to NEGATE. A minus sign is read as
     * MINUS; the reader makes it NEGATE where a ONE begins.
     */
    private static final int OPEN = 0;
    private static final int OR = 1;
    private static final int AND = 2;
    private static final int NOT = 3;
    private static final int LESS = 4;
    private static final int AT_MOST = 5;
    private static final int MORE = 6;
    private static final int AT_LEAST = 7;
    private static final int LIKE = 8;
    private static final int UNLIKE = 9;
    private static final int PLUS = 10;
    private static final int MINUS = 11;
    private static final int TIMES = 12;
    private static final int OVER = 13;
    private static final int NEGATE = 14;
    private static final int[] BINDS = {0, 1, 2, 3, 4, 4, 4, 4, 4, 4, 5, 5, 6, 6, 7};
    private static final int LOOSEST = 1;

    /** Tokens that are no operation stand behind the operations, names last. */
    private static final int CLOSE = 15;
    private static final int SEMICOLON = 16;
    private static final int NUMBER = 17;
    private static final int ON = 18;
    private static final int BEARS = 19;
    private static final int SAFE = 20;
    private static final int PUT = 21;
    private static final int TAKE = 22;
    private static final int WAIT = 23;
    private static final int FINISH = 24;
    private static final int STRANGE = 25;
    private static final int FIRST_NAME = 26;

    private static final int HOUR = 0;
    private static final int WET = 1;
    private static final int WIND = 2;
    private static final int THING = 3;
    private static final int WEIGHT = 4;
    private static final int SORT = 5;
    private static final int PAN = 6;
    private static final int LEFT = 7;
    private static final int RIGHT = 8;
    private static final int MOMENT = 9;
    private static final int TURNED = 10;
    private static final int NAMES = 11;

    /** In a script's code numbers stand as themselves, all else above the greatest of them. */
    private static final int NAME_CODE = 10000;
    private static final int OPERATION_CODE = 20000;

    private static final int CANT_STAND = 1;
    private static final int TOO_GREAT = 2;
    private static final int TOO_DEEP = 3;
    private static final int TWICE = 4;
    private static final int WRONG_NAME = 5;
    private static final int TOO_MANY = 6;

    /**
     * Four a load n from 1 to 40, 0 where there is none: there are so few n that what a search answers once
     * stands here; the tests make that search.
     */
    private static final int[] FEWEST_WEIGHTS = {
        1, 0, 0, 0, 1, 2, 0, 0, 1, 2, 0, 0, 1, 3, 0, 0, 1, 2, 3, 0,
        1, 2, 3, 0, 1, 2, 4, 0, 1, 2, 5, 0, 1, 2, 6, 0, 1, 2, 7, 0,
        1, 3, 7, 0, 1, 3, 8, 0, 1, 3, 9, 0, 1, 2, 3, 8, 1, 2, 3, 9,
        1, 2, 3, 10, 1, 2, 3, 11, 1, 2, 3, 12, 1, 2, 3, 13, 1, 2, 4, 13,
        1, 2, 4, 14, 1, 2, 4, 15, 1, 2, 5, 15, 1, 2, 5, 16, 1, 2, 5, 17,
        1, 2, 6, 17, 1, 2, 6, 18, 1, 2, 6, 19, 1, 2, 7, 19, 1, 2, 7, 20,
        1, 2, 7, 21, 1, 3, 7, 21, 1, 3, 7, 22, 1, 3, 7, 23, 1, 3, 8, 23,
        1, 3, 8, 24, 1, 3, 8, 25, 1, 3, 9, 25, 1, 3, 9, 26, 1, 3, 9, 27
    };
    private static final int WEIGHTS_A_ROW = 4;

    private final State state = new State();
    private final State kept = new State();
    private final Tokens tokens = new Tokens();
    private final Reader reader = new Reader(tokens);
    private final Script[] scripts = new Script[MOST_TEXTS];
    private final Scales scales = new Scales();
    private final Orders orders = new Orders();
    private final Counterpoise counterpoise = new Counterpoise();

    public DownByAHair() {
        for (int i = 0; i < scripts.length; i++) {
            scripts[i] = new Script();
        }
    }

    public boolean beam(int left, int right, int dull) {
        if (!within(left, 1, MOST_ARM) || !within(right, 1, MOST_ARM) || !within(dull, 0, MOST_DULL)) {
            return false;
        }
        state.leftArm = left;
        state.rightArm = right;
        state.dull = dull;
        return true;
    }

    public int thing(int weight, int sort) {
        if (!within(weight, 1, MOST_WEIGHT) || !within(sort, 0, MOST_SORT) || state.things >= MOST_THINGS) {
            return NONE;
        }
        int number = state.things;
        state.weight[number] = weight;
        state.sort[number] = sort;
        state.things = number + 1;
        return number;
    }

    public boolean weather(int hour, int wet, int wind) {
        if (!within(hour, 0, HOURS - 1) || !within(wet, 0, MOST_WET) || !within(wind, -MOST_WIND, MOST_WIND)) {
            return false;
        }
        state.hour = hour;
        state.wet = wet;
        state.wind = wind;
        return true;
    }

    public int feed(int a, int b, int c, int d, int e) {
        if (tokens.length + FED_BYTES > TAPE_BYTES) {
            return NONE;
        }
        tokens.append(a);
        tokens.append(b);
        tokens.append(c);
        tokens.append(d);
        tokens.append(e);
        return tokens.length;
    }

    public int end(int n) {
        if (!within(n, 0, tokens.length)) {
            return NONE;
        }
        tokens.length = n;
        return n;
    }

    public int text() {
        if (state.texts >= MOST_TEXTS) {
            return NONE;
        }
        boolean whole = reader.read(scripts[state.texts]);
        tokens.length = 0;
        if (!whole) {
            return NONE;
        }
        state.texts++;
        return state.texts - 1;
    }

    public int fault(int what) {
        return switch (what) {
            case 0 -> reader.fault;
            case 1 -> reader.place;
            default -> NONE;
        };
    }

    public boolean by(int text) {
        if (text != NONE && !isText(text)) {
            return false;
        }
        state.ruling = text;
        state.rule = text == NONE ? null : scripts[text];
        return true;
    }

    public int put(int thing, int pan) {
        if (!lay(thing, pan)) {
            return NONE;
        }
        return pan == LEFT_PAN ? scales.left : scales.right;
    }

    public int take(int thing) {
        int pan = state.panOf(thing);
        return lift(thing) ? pan : NONE;
    }

    public int pass(int hours) {
        return passHours(hours) ? state.hour : NONE;
    }

    public int played(int text) {
        if (!isText(text)) {
            return -2;
        }
        Script script = scripts[text];
        for (int i = 0; i < script.clauses; i++) {
            boolean done = switch (script.kind[i]) {
                case PUT -> lay(script.first[i], script.second[i]);
                case TAKE -> lift(script.first[i]);
                case WAIT -> passHours(script.first[i]);
                default -> true;
            };
            if (!done) {
                return i;
            }
        }
        return NONE;
    }

    public int undo() {
        if (!state.stepBack()) {
            return NONE;
        }
        return state.stepCount;
    }

    public int of(int thing, int what) {
        if (!within(thing, 0, state.things - 1)) {
            return -2;
        }
        scales.setAir(state.hour, state.wet, state.wind);
        return switch (what) {
            case 0 -> state.weight[thing];
            case 1 -> state.sort[thing];
            case 2 -> state.panOf(thing);
            case 3 -> scales.borneOf(state, thing, LEFT_PAN);
            case 4 -> scales.borneOf(state, thing, RIGHT_PAN);
            default -> -2;
        };
    }

    public int now(int what) {
        weighWhatLies();
        return switch (what) {
            case 0 -> scales.left;
            case 1 -> scales.right;
            case 2 -> scales.moment;
            case 3 -> leaning(scales.moment, state.dull);
            case 4 -> scales.isSafe(state.rule) ? 1 : 0;
            default -> -100000000;
        };
    }

    public long loadings(int set, int pans) {
        if (!isLoadable(set, pans)) {
            return NONE;
        }
        weighWhatLies();
        orders.prepare(state, scales, set, pans);
        return orders.count();
    }

    public int gentle(int set, int pans, int what) {
        if (!isLoadable(set, pans) || !within(what, NONE, Integer.bitCount(set) - 1)) {
            return NONE;
        }
        weighWhatLies();
        orders.prepare(state, scales, set, pans);
        int greatest = orders.leastTurn();
        if (what == NONE || greatest == NONE) {
            return greatest;
        }
        return orders.gentleThing(what, greatest);
    }

    public int reading(int pan, int beam) {
        if (!isPan(pan) || !within(beam, 0, 2) || state.readingCount >= MOST_READINGS) {
            return NONE;
        }
        weighWhatLies();
        Reading fresh = state.readings[state.readingCount];
        fresh.pan = pan;
        fresh.beam = beam;
        fresh.copyWorld(state);
        fresh.left = scales.left;
        fresh.right = scales.right;
        state.readingCount++;
        return state.readingCount;
    }

    public int forget() {
        int count = state.readingCount;
        state.readingCount = 0;
        return count;
    }

    public int span(int what) {
        if (!within(what, 0, 2)) {
            return NONE;
        }
        int count = 0;
        int least = NONE;
        int greatest = NONE;
        for (int x = 1; x <= MOST_WEIGHT; x++) {
            if (fitsReadings(x)) {
                count++;
                greatest = x;
                least = least == NONE ? x : least;
            }
        }
        return what == 0 ? count : what == 1 ? least : greatest;
    }

    public int bent(int x, int what) {
        if (!within(x, 1, MOST_WEIGHT) || !within(what, 0, 1)) {
            return NONE;
        }
        bearUnknown(x);
        int count = 0;
        int first = NONE;
        for (int l = 1; l <= MOST_BENT_ARM; l++) {
            for (int r = 1; r <= MOST_BENT_ARM; r++) {
                if (armsFitReadings(l, r)) {
                    count++;
                    first = first == NONE ? 100 * l + r : first;
                }
            }
        }
        return what == 0 ? count : first;
    }

    public int balanced(int load, int what) {
        if (!within(load, 1, MOST_WEIGHT) || !within(what, 0, 2) || !counterpoise.find(state, load)) {
            return NONE;
        }
        return switch (what) {
            case 0 -> Integer.bitCount(counterpoise.used);
            case 1 -> counterpoise.used;
            default -> counterpoise.beside;
        };
    }

    public int weights(int n, int i) {
        if (!within(n, 1, MOST_COVERED) || !within(i, NONE, WEIGHTS_A_ROW - 1)) {
            return NONE;
        }
        int row = (n - 1) * WEIGHTS_A_ROW;
        int count = 0;
        for (int k = 0; k < WEIGHTS_A_ROW; k++) {
            count += FEWEST_WEIGHTS[row + k] > 0 ? 1 : 0;
        }
        if (i == NONE) {
            return count;
        }
        return i < count ? FEWEST_WEIGHTS[row + i] : NONE;
    }

    public int rest(int seed, int n, int what) {
        if (!within(seed, 0, MOST_SEED) || !within(n, 1, MOST_REST) || !within(what, 0, 1)) {
            return NONE;
        }
        int x = seed * 7 + 17;
        int level = 0;
        int row = 0;
        int longest = 0;
        for (int i = 0; i < n; i++) {
            scales.setAir((state.hour + i) % HOURS, state.wet, x % 19 - 9);
            scales.weigh(state, state.left, state.right);
            boolean still = leaning(scales.moment, state.dull) == 0;
            level += still ? 1 : 0;
            row = still ? row + 1 : 0;
            longest = Math.max(longest, row);
            x = (x * 167 + 43) % 30089;
        }
        return what == 0 ? level : longest;
    }

    public int image() {
        kept.copyFrom(state);
        return state.things;
    }

    public int back() {
        state.copyFrom(kept);
        return state.things;
    }

    public int about(int what) {
        return switch (what) {
            case 0 -> state.things;
            case 1 -> state.leftArm;
            case 2 -> state.rightArm;
            case 3 -> state.dull;
            case 4 -> state.hour;
            case 5 -> state.wet;
            case 6 -> state.wind;
            case 7 -> state.texts;
            case 8 -> state.ruling;
            case 9 -> state.stepCount;
            case 10 -> state.readingCount;
            case 11 -> tokens.length;
            case 12 -> state.left;
            case 13 -> state.right;
            default -> -100;
        };
    }

    private static boolean within(int value, int least, int most) {
        return value >= least && value <= most;
    }

    private static boolean isPan(int pan) {
        return pan == LEFT_PAN || pan == RIGHT_PAN;
    }

    private boolean isText(int text) {
        return within(text, 0, state.texts - 1);
    }

    private static int leaning(int moment, int dull) {
        if (moment > dull) {
            return 1;
        }
        return moment < -dull ? 2 : 0;
    }

    private void weighWhatLies() {
        scales.setAir(state.hour, state.wet, state.wind);
        scales.weigh(state, state.left, state.right);
    }

    private boolean lay(int thing, int pan) {
        if (!within(thing, 0, state.things - 1) || !isPan(pan) || state.panOf(thing) != NONE) {
            return false;
        }
        int bit = 1 << thing;
        return pan == LEFT_PAN ? rearrange(state.left | bit, state.right) : rearrange(state.left, state.right | bit);
    }

    private boolean lift(int thing) {
        if (state.panOf(thing) == NONE) {
            return false;
        }
        int others = ~(1 << thing);
        return rearrange(state.left & others, state.right & others);
    }

    private boolean rearrange(int left, int right) {
        scales.setAir(state.hour, state.wet, state.wind);
        scales.weigh(state, left, right);
        if (!scales.isSafe(state.rule)) {
            return false;
        }
        state.keepStep();
        state.left = left;
        state.right = right;
        return true;
    }

    private boolean passHours(int hours) {
        if (!within(hours, 0, MOST_WAIT)) {
            return false;
        }
        state.keepStep();
        state.hour = (state.hour + hours) % HOURS;
        return true;
    }

    private boolean isLoadable(int set, int pans) {
        int told = (1 << state.things) - 1;
        int free = told & ~(state.left | state.right);
        return (set & ~free) == 0 && (pans & ~set) == 0 && Integer.bitCount(set) <= MOST_LOADED;
    }

    private boolean fitsReadings(int x) {
        for (int i = 0; i < state.readingCount; i++) {
            Reading reading = state.readings[i];
            reading.load = borneAt(reading, x);
            if (!reading.agrees(reading.leftArm, reading.rightArm)) {
                return false;
            }
        }
        return true;
    }

    private void bearUnknown(int x) {
        for (int i = 0; i < state.readingCount; i++) {
            Reading reading = state.readings[i];
            reading.load = borneAt(reading, x);
        }
    }

    private int borneAt(Reading reading, int x) {
        scales.setAir(reading.hour, reading.wet, reading.wind);
        return scales.borne(state.rule, UNKNOWN_THING, x, 0, reading.pan);
    }

    private boolean armsFitReadings(int leftArm, int rightArm) {
        for (int i = 0; i < state.readingCount; i++) {
            if (!state.readings[i].agrees(leftArm, rightArm)) {
                return false;
            }
        }
        return true;
    }

    /** What a moment hangs on beside the loads; a reading keeps it as it was. */
    private abstract static class World {
        int leftArm = 10;
        int rightArm = 10;
        int dull;
        int hour;
        int wet;
        int wind;

        final void copyWorld(World other) {
            leftArm = other.leftArm;
            rightArm = other.rightArm;
            dull = other.dull;
            hour = other.hour;
            wet = other.wet;
            wind = other.wind;
        }
    }

    /** All that an image keeps. */
    private static final class State extends World {
        int things;
        final int[] weight = new int[MOST_THINGS];
        final int[] sort = new int[MOST_THINGS];
        int left;
        int right;
        int texts;
        int ruling = NONE;
        Script rule;
        final int[] steps = new int[MOST_STEPS];
        int stepCount;
        final Reading[] readings = new Reading[MOST_READINGS];
        int readingCount;

        State() {
            for (int i = 0; i < readings.length; i++) {
                readings[i] = new Reading();
            }
        }

        /**
         * Scripts are not copied: texts only come behind those of the image, so the image's own are never
         * written over while it stands, and their number is enough.
         */
        void copyFrom(State other) {
            copyWorld(other);
            things = other.things;
            System.arraycopy(other.weight, 0, weight, 0, MOST_THINGS);
            System.arraycopy(other.sort, 0, sort, 0, MOST_THINGS);
            left = other.left;
            right = other.right;
            texts = other.texts;
            ruling = other.ruling;
            rule = other.rule;
            System.arraycopy(other.steps, 0, steps, 0, MOST_STEPS);
            stepCount = other.stepCount;
            for (int i = 0; i < other.readingCount; i++) {
                readings[i].copyFrom(other.readings[i]);
            }
            readingCount = other.readingCount;
        }

        int panOf(int thing) {
            if (!within(thing, 0, things - 1)) {
                return NONE;
            }
            if ((left >> thing & 1) == 1) {
                return LEFT_PAN;
            }
            return (right >> thing & 1) == 1 ? RIGHT_PAN : NONE;
        }

        /** What lies where and the hour fit into one number: twelve bits a pan, and the hour above them. */
        void keepStep() {
            if (stepCount == MOST_STEPS) {
                System.arraycopy(steps, 1, steps, 0, MOST_STEPS - 1);
                stepCount--;
            }
            steps[stepCount] = left | right << MOST_THINGS | hour << 2 * MOST_THINGS;
            stepCount++;
        }

        boolean stepBack() {
            if (stepCount == 0) {
                return false;
            }
            stepCount--;
            int ahead = steps[stepCount];
            int all = (1 << MOST_THINGS) - 1;
            left = ahead & all;
            right = ahead >> MOST_THINGS & all;
            hour = ahead >> 2 * MOST_THINGS;
            return true;
        }
    }

    /** The beam as it was seen with the unknown load in a pan, and the world as it was then. */
    private static final class Reading extends World {
        int pan;
        int beam;
        int left;
        int right;
        /** What the unknown load bears, for the weight that is being tried. */
        int load;

        void copyFrom(Reading other) {
            copyWorld(other);
            pan = other.pan;
            beam = other.beam;
            left = other.left;
            right = other.right;
        }

        boolean agrees(int leftArmTried, int rightArmTried) {
            int leftLoad = pan == LEFT_PAN ? left + load : left;
            int rightLoad = pan == RIGHT_PAN ? right + load : right;
            int moment = leftArmTried * leftLoad - rightArmTried * rightLoad + wind * 10;
            return leaning(moment, dull) == beam;
        }
    }

    /** A text that was read: its sums and asks as code for a stack, operands ahead of their operation. */
    private static final class Script {
        final int[] code = new int[TAPE_BYTES];
        int size;
        int bearsFrom;
        int bearsTo;
        int safeFrom;
        int safeTo;
        final int[] kind = new int[MOST_CLAUSES];
        final int[] first = new int[MOST_CLAUSES];
        final int[] second = new int[MOST_CLAUSES];
        int clauses;

        void clear() {
            size = 0;
            bearsFrom = NONE;
            safeFrom = NONE;
            clauses = 0;
        }

        void emit(int item) {
            if (size < code.length) {
                code[size] = item;
                size++;
            }
        }

        void addClause(int head, int one, int other) {
            if (clauses < MOST_CLAUSES) {
                kind[clauses] = head;
                first[clauses] = one;
                second[clauses] = other;
                clauses++;
            }
        }
    }

    /** The tape, and the token on it that is looked at. */
    private static final class Tokens {
        final byte[] tape = new byte[TAPE_BYTES];
        int length;
        int token;
        int start;
        int next;
        int number;

        void append(int four) {
            for (int shift = 24; shift >= 0 && length < tape.length; shift -= 8) {
                tape[length] = (byte) (four >> shift);
                length++;
            }
        }

        void begin() {
            next = 0;
            advance();
        }

        void advance() {
            while (next < length && (tape[next] == ' ' || tape[next] == '\n')) {
                next++;
            }
            start = next;
            if (next >= length) {
                token = FINISH;
            } else if (isLetter(tape[next])) {
                while (next < length && isLetter(tape[next])) {
                    next++;
                }
                token = wordToken();
            } else if (isDigit(tape[next])) {
                readNumber();
            } else {
                token = signToken(tape[next], next + 1 < length && tape[next + 1] == '=');
                next += token == AT_MOST || token == AT_LEAST ? 2 : 1;
            }
        }

        private void readNumber() {
            token = NUMBER;
            number = 0;
            while (next < length && isDigit(tape[next])) {
                // held just above the greatest number, so that no row of digits runs over
                number = Math.min(number * 10 + (tape[next] - '0'), MOST_NUMBER + 1);
                next++;
            }
        }

        private int wordToken() {
            if (reads("or")) return OR;
            if (reads("and")) return AND;
            if (reads("not")) return NOT;
            if (reads("on")) return ON;
            if (reads("bears")) return BEARS;
            if (reads("safe")) return SAFE;
            if (reads("put")) return PUT;
            if (reads("take")) return TAKE;
            if (reads("wait")) return WAIT;
            if (reads("hour")) return FIRST_NAME + HOUR;
            if (reads("wet")) return FIRST_NAME + WET;
            if (reads("wind")) return FIRST_NAME + WIND;
            if (reads("thing")) return FIRST_NAME + THING;
            if (reads("weight")) return FIRST_NAME + WEIGHT;
            if (reads("sort")) return FIRST_NAME + SORT;
            if (reads("pan")) return FIRST_NAME + PAN;
            if (reads("left")) return FIRST_NAME + LEFT;
            if (reads("right")) return FIRST_NAME + RIGHT;
            if (reads("moment")) return FIRST_NAME + MOMENT;
            if (reads("turned")) return FIRST_NAME + TURNED;
            return STRANGE;
        }

        private boolean reads(String word) {
            if (next - start != word.length()) {
                return false;
            }
            for (int i = 0; i < word.length(); i++) {
                if (tape[start + i] != word.charAt(i)) {
                    return false;
                }
            }
            return true;
        }

        private static int signToken(byte sign, boolean withEqual) {
            return switch (sign) {
                case '<' -> withEqual ? AT_MOST : LESS;
                case '>' -> withEqual ? AT_LEAST : MORE;
                case '=' -> LIKE;
                case '#' -> UNLIKE;
                case '+' -> PLUS;
                case '-' -> MINUS;
                case '*' -> TIMES;
                case '/' -> OVER;
                case '(' -> OPEN;
                case ')' -> CLOSE;
                case ';' -> SEMICOLON;
                default -> STRANGE;
            };
        }

        private static boolean isLetter(byte sign) {
            return sign >= 'a' && sign <= 'z' || sign >= 'A' && sign <= 'Z';
        }

        private static boolean isDigit(byte sign) {
            return sign >= '0' && sign <= '9';
        }
    }

    /**
     * Reads the tape's tokens, once each and in their order, into a script. Operations wait on a stack until
     * one that binds less comes, so nothing here calls itself.
     */
    private static final class Reader {
        /** Eight that are open, two signs of a sum around each and in all, a relation, an and, an or. */
        private static final int MOST_WAITING = MOST_OPEN + 2 * (MOST_OPEN + 1) + 3;

        final Tokens tokens;
        final int[] waiting = new int[MOST_WAITING];
        int waitingCount;
        Script script;
        /** NONE until a text has been read. */
        int fault = NONE;
        int place = NONE;
        /** How many of ( not and - are open. */
        int open;
        int brackets;
        boolean asks;
        boolean operandDue;
        boolean askBegins;
        boolean related;
        boolean closed;

        Reader(Tokens tokens) {
            this.tokens = tokens;
        }

        boolean read(Script into) {
            script = into;
            script.clear();
            fault = 0;
            place = NONE;
            tokens.begin();
            for (int i = 0; i <= MOST_CLAUSES && fault == 0 && tokens.token != FINISH; i++) {
                int head = tokens.token;
                int wrong = headFault(head);
                if (wrong != 0) {
                    fail(wrong);
                } else if (head == BEARS || head == SAFE) {
                    readLaw(head);
                } else {
                    readStep(head);
                }
            }
            return fault == 0;
        }

        private void fail(int number) {
            if (fault == 0) {
                fault = number;
                place = tokens.start;
            }
        }

        private int headFault(int head) {
            if (head < BEARS || head > WAIT) {
                return CANT_STAND;
            }
            if (head == BEARS && script.bearsFrom != NONE || head == SAFE && script.safeFrom != NONE) {
                return TWICE;
            }
            return script.clauses == MOST_CLAUSES ? TOO_MANY : 0;
        }

        private void readStep(int head) {
            tokens.advance();
            int one = takeNumber(head == WAIT ? MOST_WAIT : MOST_THINGS - 1);
            int other = 0;
            if (head == PUT) {
                takeToken(ON);
                other = takeNumber(RIGHT_PAN);
            }
            takeToken(SEMICOLON);
            script.addClause(head, one, other);
        }

        private int takeNumber(int most) {
            if (tokens.token != NUMBER) {
                fail(CANT_STAND);
            } else if (tokens.number > most) {
                fail(TOO_GREAT);
            }
            int number = tokens.number;
            if (fault == 0) {
                tokens.advance();
            }
            return number;
        }

        private void takeToken(int due) {
            if (tokens.token != due) {
                fail(CANT_STAND);
            }
            if (fault == 0) {
                tokens.advance();
            }
        }

        private void readLaw(int head) {
            int from = script.size;
            asks = head == SAFE;
            waitingCount = 0;
            open = 0;
            brackets = 0;
            operandDue = true;
            askBegins = asks;
            related = false;
            closed = false;
            for (int i = 0; i <= TAPE_BYTES && fault == 0 && !closed; i++) {
                tokens.advance();
                if (operandDue) {
                    readOperand();
                } else {
                    readOperation();
                }
            }
            takeToken(SEMICOLON);
            script.addClause(head, 0, 0);
            if (asks) {
                script.safeFrom = from;
                script.safeTo = script.size;
            } else {
                script.bearsFrom = from;
                script.bearsTo = script.size;
            }
        }

        private void readOperand() {
            int token = tokens.token;
            if (token == OPEN || token == MINUS || token == NOT && askBegins) {
                openOne(token == MINUS ? NEGATE : token);
                return;
            }
            int wrong = operandFault(token);
            if (wrong != 0) {
                fail(wrong);
            } else {
                takeOperand(token == NUMBER ? tokens.number : NAME_CODE + token - FIRST_NAME);
            }
        }

        private int operandFault(int token) {
            if (token == NUMBER) {
                return tokens.number > MOST_NUMBER ? TOO_GREAT : 0;
            }
            if (token < FIRST_NAME) {
                return CANT_STAND;
            }
            int name = token - FIRST_NAME;
            boolean ofThisClause = name < THING || (name >= LEFT) == asks;
            return ofThisClause ? 0 : WRONG_NAME;
        }

        private void openOne(int operation) {
            if (open >= MOST_OPEN) {
                fail(TOO_DEEP);
                return;
            }
            open++;
            brackets += operation == OPEN ? 1 : 0;
            askBegins = operation == NOT;
            keepWaiting(operation);
        }

        private void takeOperand(int item) {
            script.emit(item);
            askBegins = false;
            operandDue = false;
        }

        private void readOperation() {
            int token = tokens.token;
            if (token >= PLUS && token <= OVER) {
                joinBy(token);
            } else if (token == CLOSE && brackets > 0) {
                closeBracket();
            } else if (token >= LESS && token <= UNLIKE && asks && brackets == 0 && !related) {
                joinBy(token);
                related = true;
            } else if ((token == AND || token == OR) && brackets == 0 && related) {
                joinBy(token);
                related = false;
                askBegins = true;
            } else if (token == SEMICOLON && brackets == 0 && related == asks) {
                settle(LOOSEST);
                closed = true;
            } else {
                fail(CANT_STAND);
            }
        }

        private void joinBy(int operation) {
            settle(BINDS[operation]);
            keepWaiting(operation);
            operandDue = true;
        }

        private void closeBracket() {
            settle(LOOSEST);
            waitingCount -= waitingCount > 0 ? 1 : 0;
            brackets--;
            open--;
        }

        private void keepWaiting(int operation) {
            if (waitingCount < waiting.length) {
                waiting[waitingCount] = operation;
                waitingCount++;
            }
        }

        /** What waits and binds as much as this, or more, has its operands: a minus of a ONE with any operation. */
        private void settle(int least) {
            while (waitingCount > 0 && BINDS[waiting[waitingCount - 1]] >= least) {
                waitingCount--;
                int operation = waiting[waitingCount];
                script.emit(OPERATION_CODE + operation);
                open -= operation == NEGATE || operation == NOT ? 1 : 0;
            }
        }
    }

    /** Weighs by a script's laws in an air that is told. */
    private static final class Scales {
        /** A value for each bracket's sum and product, a relation's side, an and, an or, and the one at work. */
        private static final int MOST_VALUES = 2 * (MOST_OPEN + 1) + 4;

        final int[] named = new int[NAMES];
        final int[] values = new int[MOST_VALUES];
        int left;
        int right;
        int moment;

        void setAir(int hour, int wet, int wind) {
            named[HOUR] = hour;
            named[WET] = wet;
            named[WIND] = wind;
        }

        void weigh(State state, int leftThings, int rightThings) {
            int leftLoad = 0;
            int rightLoad = 0;
            for (int i = 0; i < state.things; i++) {
                if ((leftThings >> i & 1) == 1) {
                    leftLoad += borne(state.rule, i, state.weight[i], state.sort[i], LEFT_PAN);
                } else if ((rightThings >> i & 1) == 1) {
                    rightLoad += borne(state.rule, i, state.weight[i], state.sort[i], RIGHT_PAN);
                }
            }
            hang(state, leftLoad, rightLoad);
        }

        void hang(State state, int leftLoad, int rightLoad) {
            left = leftLoad;
            right = rightLoad;
            moment = state.leftArm * left - state.rightArm * right + named[WIND] * 10;
        }

        int borneOf(State state, int thing, int pan) {
            return borne(state.rule, thing, state.weight[thing], state.sort[thing], pan);
        }

        int borne(Script rule, int thing, int weight, int sort, int pan) {
            if (rule == null || rule.bearsFrom == NONE) {
                return weight;
            }
            named[THING] = thing;
            named[WEIGHT] = weight;
            named[SORT] = sort;
            named[PAN] = pan;
            int value = valueOf(rule.code, rule.bearsFrom, rule.bearsTo);
            return value < 0 ? 0 : value > MOST_BORNE ? MOST_BORNE : value;
        }

        boolean isSafe(Script rule) {
            if (rule == null || rule.safeFrom == NONE) {
                return true;
            }
            named[LEFT] = left;
            named[RIGHT] = right;
            // of all names these two alone can be more than a value may
            named[MOMENT] = held(moment);
            named[TURNED] = held(Math.abs(moment));
            return valueOf(rule.code, rule.safeFrom, rule.safeTo) != 0;
        }

        private int valueOf(int[] code, int from, int to) {
            int top = -1;
            for (int i = from; i < to; i++) {
                int item = code[i];
                int operation = item - OPERATION_CODE;
                if (item < OPERATION_CODE && top + 1 < values.length) {
                    top++;
                    values[top] = item < NAME_CODE ? item : named[item - NAME_CODE];
                } else if (operation == NEGATE && top >= 0) {
                    values[top] = -values[top];
                } else if (operation == NOT && top >= 0) {
                    values[top] = 1 - values[top];
                } else if (top >= 1) {
                    top--;
                    values[top] = held(joined(operation, values[top], values[top + 1]));
                }
            }
            return top == 0 ? values[0] : 0;
        }

        private static int held(long value) {
            if (value > MOST_VALUE) {
                return MOST_VALUE;
            }
            return value < -MOST_VALUE ? -MOST_VALUE : (int) value;
        }

        private static long joined(int operation, long a, long b) {
            return switch (operation) {
                case OR -> a | b;
                case AND -> a & b;
                case LESS -> a < b ? 1 : 0;
                case AT_MOST -> a <= b ? 1 : 0;
                case MORE -> a > b ? 1 : 0;
                case AT_LEAST -> a >= b ? 1 : 0;
                case LIKE -> a == b ? 1 : 0;
                case UNLIKE -> a != b ? 1 : 0;
                case PLUS -> a + b;
                case MINUS -> a - b;
                case TIMES -> a * b;
                case OVER -> b == 0 ? 0 : a / b;
                default -> 0;
            };
        }
    }

    /**
     * Orders of loading. What is safe and how far the beam turns hangs on which things lie, not on the order
     * in which they came, so a row has one place for each part of the set.
     */
    private static final class Orders {
        private static final int PARTS = 1 << MOST_LOADED;
        /** Above any turn that the longest arms and the greatest loads can make. */
        private static final int NEVER = 1000000000;

        final int[] member = new int[MOST_LOADED];
        int members;
        final int[] left = new int[PARTS];
        final int[] right = new int[PARTS];
        /** How far the beam turns with a part laid, NEVER where that isn't safe. */
        final int[] turned = new int[PARTS];
        final int[] found = new int[PARTS];

        /** The scales must have weighed what lies. */
        void prepare(State state, Scales scales, int set, int pans) {
            left[0] = scales.left;
            right[0] = scales.right;
            members = 0;
            for (int thing = 0; thing < state.things && members < MOST_LOADED; thing++) {
                if ((set >> thing & 1) == 1) {
                    int pan = pans >> thing & 1;
                    member[members] = thing;
                    addToParts(1 << members, pan, scales.borneOf(state, thing, pan));
                    members++;
                }
            }
            for (int part = 1; part < 1 << members; part++) {
                scales.hang(state, left[part], right[part]);
                turned[part] = scales.isSafe(state.rule) ? Math.abs(scales.moment) : NEVER;
            }
        }

        private void addToParts(int bit, int pan, int borne) {
            for (int part = 0; part < bit; part++) {
                left[bit + part] = left[part] + (pan == LEFT_PAN ? borne : 0);
                right[bit + part] = right[part] + (pan == RIGHT_PAN ? borne : 0);
            }
        }

        int count() {
            found[0] = 1;
            int all = (1 << members) - 1;
            for (int part = 1; part <= all; part++) {
                int ways = 0;
                for (int i = 0; i < members && turned[part] != NEVER; i++) {
                    ways += (part >> i & 1) == 1 ? found[part - (1 << i)] : 0;
                }
                found[part] = ways;
            }
            return found[all];
        }

        /** The least of the greatest turns that any order makes, NONE if no order is safe. */
        int leastTurn() {
            int all = (1 << members) - 1;
            found[all] = 0;
            for (int part = all - 1; part >= 0; part--) {
                int least = NEVER;
                for (int i = 0; i < members; i++) {
                    if ((part >> i & 1) == 0) {
                        least = Math.min(least, turnFrom(part + (1 << i)));
                    }
                }
                found[part] = least;
            }
            return found[0] == NEVER ? NONE : found[0];
        }

        /** The least of the greatest turns from this part's being laid to the end. */
        private int turnFrom(int part) {
            return Math.max(turned[part], found[part]);
        }

        /** The thing so many behind the first: each is the lowest that stays within the greatest turn. */
        int gentleThing(int behind, int greatest) {
            int part = 0;
            int thing = NONE;
            for (int n = 0; n <= behind; n++) {
                int i = nextMember(part, greatest);
                if (i == NONE) {
                    return NONE;
                }
                thing = member[i];
                part += 1 << i;
            }
            return thing;
        }

        private int nextMember(int part, int greatest) {
            for (int i = 0; i < members; i++) {
                if ((part >> i & 1) == 0 && turnFrom(part + (1 << i)) <= greatest) {
                    return i;
                }
            }
            return NONE;
        }
    }

    /** Things that balance a load by their weights alone. */
    private static final class Counterpoise {
        /** What each set of things weighs; the empty one, first, nothing. */
        final int[] sum = new int[1 << MOST_THINGS];
        int used;
        int beside;

        boolean find(State state, int load) {
            addSums(state);
            int fewest = MOST_THINGS + 1;
            for (int set = 1; set < 1 << state.things; set++) {
                int count = Integer.bitCount(set);
                int part = count < fewest ? partBeside(set, load) : NONE;
                if (part != NONE) {
                    fewest = count;
                    used = set;
                    beside = part;
                }
            }
            return fewest <= MOST_THINGS;
        }

        private void addSums(State state) {
            for (int i = 0; i < state.things; i++) {
                for (int set = 0; set < 1 << i; set++) {
                    sum[set + (1 << i)] = sum[set] + state.weight[i];
                }
            }
        }

        /** The lowest part of the set that lies beside the load if the rest of the set lies against both. */
        private int partBeside(int set, int load) {
            int spare = sum[set] - load;
            if (spare < 0 || spare % 2 != 0) {
                return NONE;
            }
            int part = 0;
            for (int n = 0; n < 1 << MOST_THINGS; n++) {
                if (sum[part] * 2 == spare) {
                    return part;
                }
                // the next higher part of the set, by the carry through the bits outside it
                part = (part - set) & set;
                if (part == 0) {
                    return NONE;
                }
            }
            return NONE;
        }
    }
}
