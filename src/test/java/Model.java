import java.util.ArrayDeque;
import java.util.ArrayList;
import java.util.Arrays;
import java.util.Deque;
import java.util.HashSet;
import java.util.List;
import java.util.Set;

/**
 * The document's words once more, written as a second program that shares nothing with the class: trees in
 * place of code, every order tried, every side tried. ModelTest holds the class against it.
 */
final class Model {
    static final int NONE = -1;

    static final class Fault extends RuntimeException {
        private static final long serialVersionUID = 1L;
        final int number;
        final int place;

        Fault(int number, int place) {
            super("fault " + number + " at " + place);
            this.number = number;
            this.place = place;
        }
    }

    record Token(String kind, String word, int place) { }

    /** A part of a law: an operation with its parts, or a leaf. */
    record Tree(String what, int number, List<Tree> parts) {
        static Tree leaf(int number) {
            return new Tree("number", number, List.of());
        }

        static Tree of(String what, Tree... parts) {
            return new Tree(what, 0, List.of(parts));
        }
    }

    record Clause(String kind, int one, int other) { }

    static final class Text {
        Tree bears;
        Tree safe;
        final List<Clause> clauses = new ArrayList<>();
    }

    static final class Parser {
        static final Set<String> ALL = Set.of("hour", "wet", "wind");
        static final Set<String> OF_BEARS = Set.of("thing", "weight", "sort", "pan");
        static final Set<String> OF_SAFE = Set.of("left", "right", "moment", "turned");
        final String text;
        int at;
        Token token;
        boolean safe;

        Parser(String text) {
            this.text = text;
            next();
        }

        void next() {
            while (at < text.length() && " \n".indexOf(text.charAt(at)) >= 0) at++;
            int from = at;
            if (at == text.length()) {
                token = new Token("end", "", at);
                return;
            }
            while (at < text.length() && String.valueOf(text.charAt(at)).matches("[a-zA-Z]")) at++;
            if (at > from) {
                token = new Token("word", text.substring(from, at), from);
                return;
            }
            while (at < text.length() && String.valueOf(text.charAt(at)).matches("[0-9]")) at++;
            if (at > from) {
                token = new Token("number", text.substring(from, at), from);
                return;
            }
            for (String sign : new String[] {"<=", ">=", "<", ">", "=", "#", "+", "-", "*", "/", "(", ")", ";"}) {
                if (text.startsWith(sign, from)) {
                    at = from + sign.length();
                    token = new Token("sign", sign, from);
                    return;
                }
            }
            token = new Token("none", "", from);
        }

        Fault fault(int number) {
            return new Fault(number, token.place);
        }

        boolean sees(String word) {
            return (token.kind.equals("word") || token.kind.equals("sign")) && token.word.equals(word);
        }

        boolean passes(String word) {
            if (!sees(word)) return false;
            next();
            return true;
        }

        void must(String word) {
            if (!passes(word)) throw fault(1);
        }

        int number(int most) {
            if (!token.kind.equals("number")) throw fault(1);
            if (new java.math.BigInteger(token.word).compareTo(java.math.BigInteger.valueOf(most)) > 0) throw fault(2);
            int value = Integer.parseInt(token.word);
            next();
            return value;
        }

        Text parse() {
            Text whole = new Text();
            while (!token.kind.equals("end")) {
                if (!token.kind.equals("word")) throw fault(1);
                String head = token.word;
                if (!Set.of("bears", "safe", "put", "take", "wait").contains(head)) throw fault(1);
                if (head.equals("bears") && whole.bears != null) throw fault(4);
                if (head.equals("safe") && whole.safe != null) throw fault(4);
                if (whole.clauses.size() == 24) throw fault(6);
                next();
                int one = 0;
                int other = 0;
                switch (head) {
                    case "bears" -> { safe = false; whole.bears = sum(0); }
                    case "safe" -> { safe = true; whole.safe = either(); }
                    case "put" -> { one = number(11); must("on"); other = number(1); }
                    case "take" -> one = number(11);
                    default -> one = number(99);
                }
                must(";");
                whole.clauses.add(new Clause(head, one, other));
            }
            return whole;
        }

        Tree either() {
            Tree tree = both();
            while (passes("or")) tree = Tree.of("or", tree, both());
            return tree;
        }

        Tree both() {
            Tree tree = ask(0);
            while (passes("and")) tree = Tree.of("and", tree, ask(0));
            return tree;
        }

        Tree ask(int open) {
            if (sees("not")) {
                if (open == 8) throw fault(3);
                next();
                return Tree.of("not", ask(open + 1));
            }
            Tree tree = sum(open);
            for (String sign : new String[] {"<", "<=", ">", ">=", "=", "#"}) {
                if (passes(sign)) return Tree.of(sign, tree, sum(open));
            }
            throw fault(1);
        }

        Tree sum(int open) {
            Tree tree = product(open);
            while (sees("+") || sees("-")) {
                String sign = token.word;
                next();
                tree = Tree.of(sign, tree, product(open));
            }
            return tree;
        }

        Tree product(int open) {
            Tree tree = one(open);
            while (sees("*") || sees("/")) {
                String sign = token.word;
                next();
                tree = Tree.of(sign, tree, one(open));
            }
            return tree;
        }

        Tree one(int open) {
            if (token.kind.equals("number")) return Tree.leaf(number(9999));
            if (sees("(") || sees("-")) {
                if (open == 8) throw fault(3);
                boolean bracket = sees("(");
                next();
                if (!bracket) return Tree.of("negate", one(open + 1));
                Tree inside = sum(open + 1);
                must(")");
                return inside;
            }
            if (!token.kind.equals("word")) throw fault(1);
            String name = token.word;
            if (!ALL.contains(name) && !OF_BEARS.contains(name) && !OF_SAFE.contains(name)) throw fault(1);
            if ((safe ? OF_BEARS : OF_SAFE).contains(name)) throw fault(5);
            next();
            return Tree.of(name);
        }
    }

    record Thing(int weight, int sort) { }

    record Reading(int pan, int beam, int l, int r, int dull, int hour, int wet, int wind, long left, long right) { }

    record Step(int[] pans, int hour) { }

    static final class World {
        int l = 10;
        int r = 10;
        int dull;
        int hour;
        int wet;
        int wind;
        List<Thing> things = new ArrayList<>();
        int[] pans = new int[12];
        List<Text> texts = new ArrayList<>();
        int ruling = NONE;
        Deque<Step> steps = new ArrayDeque<>();
        List<Reading> readings = new ArrayList<>();

        World() {
            Arrays.fill(pans, NONE);
        }

        World copy() {
            World w = new World();
            w.l = l;
            w.r = r;
            w.dull = dull;
            w.hour = hour;
            w.wet = wet;
            w.wind = wind;
            w.things = new ArrayList<>(things);
            w.pans = pans.clone();
            w.texts = new ArrayList<>(texts);
            w.ruling = ruling;
            w.steps = new ArrayDeque<>(steps);
            w.readings = new ArrayList<>(readings);
            return w;
        }
    }

    World w = new World();
    World kept = new World();
    String tape = "";
    int fault = NONE;
    int place = NONE;

    static long clamp(long value) {
        return Math.max(-1000000, Math.min(1000000, value));
    }

    interface Names {
        long value(String name);
    }

    static long eval(Tree tree, Names names) {
        if (tree.what.equals("number")) return tree.number;
        if (tree.parts.isEmpty()) return clamp(names.value(tree.what));
        long a = eval(tree.parts.get(0), names);
        if (tree.what.equals("negate")) return clamp(-a);
        if (tree.what.equals("not")) return a == 0 ? 1 : 0;
        long b = eval(tree.parts.get(1), names);
        return clamp(switch (tree.what) {
            case "or" -> a != 0 || b != 0 ? 1 : 0;
            case "and" -> a != 0 && b != 0 ? 1 : 0;
            case "<" -> a < b ? 1 : 0;
            case "<=" -> a <= b ? 1 : 0;
            case ">" -> a > b ? 1 : 0;
            case ">=" -> a >= b ? 1 : 0;
            case "=" -> a == b ? 1 : 0;
            case "#" -> a != b ? 1 : 0;
            case "+" -> a + b;
            case "-" -> a - b;
            case "*" -> a * b;
            case "/" -> b == 0 ? 0 : a / b;
            default -> throw new IllegalStateException(tree.what);
        });
    }

    Text rule() {
        return w.ruling == NONE ? null : w.texts.get(w.ruling);
    }

    long bears(int thing, int weight, int sort, int pan, int hour, int wet, int wind) {
        Text rule = rule();
        if (rule == null || rule.bears == null) return weight;
        long value = eval(rule.bears, name -> switch (name) {
            case "hour" -> hour;
            case "wet" -> wet;
            case "wind" -> wind;
            case "thing" -> thing;
            case "weight" -> weight;
            case "sort" -> sort;
            case "pan" -> pan;
            default -> throw new IllegalStateException(name);
        });
        return Math.max(0, Math.min(9999, value));
    }

    long load(int pan, int hour, int wind) {
        long load = 0;
        for (int i = 0; i < w.things.size(); i++) {
            if (w.pans[i] == pan) load += bears(i, w.things.get(i).weight, w.things.get(i).sort, pan, hour, w.wet, wind);
        }
        return load;
    }

    long moment() {
        return w.l * load(0, w.hour, w.wind) - w.r * load(1, w.hour, w.wind) + w.wind * 10L;
    }

    static int lean(long moment, int dull) {
        return Math.abs(moment) <= dull ? 0 : moment > 0 ? 1 : 2;
    }

    boolean safe() {
        Text rule = rule();
        if (rule == null || rule.safe == null) return true;
        return eval(rule.safe, name -> switch (name) {
            case "hour" -> w.hour;
            case "wet" -> w.wet;
            case "wind" -> w.wind;
            case "left" -> load(0, w.hour, w.wind);
            case "right" -> load(1, w.hour, w.wind);
            case "moment" -> moment();
            case "turned" -> Math.abs(moment());
            default -> throw new IllegalStateException(name);
        }) != 0;
    }

    boolean beam(int left, int right, int dull) {
        if (left < 1 || left > 99 || right < 1 || right > 99 || dull < 0 || dull > 9999) return false;
        w.l = left;
        w.r = right;
        w.dull = dull;
        return true;
    }

    int thing(int weight, int sort) {
        if (weight < 1 || weight > 999 || sort < 0 || sort > 9 || w.things.size() == 12) return NONE;
        w.things.add(new Thing(weight, sort));
        return w.things.size() - 1;
    }

    boolean weather(int hour, int wet, int wind) {
        if (hour < 0 || hour > 23 || wet < 0 || wet > 9 || wind < -9 || wind > 9) return false;
        w.hour = hour;
        w.wet = wet;
        w.wind = wind;
        return true;
    }

    int feed(int... words) {
        if (tape.length() + 20 > 300) return NONE;
        StringBuilder longer = new StringBuilder(tape);
        for (int word : words) {
            for (byte b : java.nio.ByteBuffer.allocate(4).putInt(word).array()) longer.append((char) (b & 255));
        }
        tape = longer.toString();
        return tape.length();
    }

    int end(int n) {
        if (n < 0 || n > tape.length()) return NONE;
        tape = tape.substring(0, n);
        return n;
    }

    int text() {
        if (w.texts.size() == 4) return NONE;
        String read = tape;
        tape = "";
        try {
            Text text = new Parser(read).parse();
            fault = 0;
            place = NONE;
            w.texts.add(text);
            return w.texts.size() - 1;
        } catch (Fault found) {
            fault = found.number;
            place = found.place;
            return NONE;
        }
    }

    int fault(int what) {
        return what == 0 ? fault : what == 1 ? place : NONE;
    }

    boolean by(int text) {
        if (text != NONE && (text < 0 || text >= w.texts.size())) return false;
        w.ruling = text;
        return true;
    }

    void keepStep(int[] pans, int hour) {
        w.steps.addLast(new Step(pans, hour));
        if (w.steps.size() > 40) w.steps.removeFirst();
    }

    boolean move(int thing, int pan) {
        int[] before = w.pans.clone();
        w.pans[thing] = pan;
        if (safe()) {
            keepStep(before, w.hour);
            return true;
        }
        w.pans = before;
        return false;
    }

    int put(int thing, int pan) {
        if (thing < 0 || thing >= w.things.size() || pan < 0 || pan > 1 || w.pans[thing] != NONE) return NONE;
        return move(thing, pan) ? (int) load(pan, w.hour, w.wind) : NONE;
    }

    int take(int thing) {
        if (thing < 0 || thing >= w.things.size() || w.pans[thing] == NONE) return NONE;
        int pan = w.pans[thing];
        return move(thing, NONE) ? pan : NONE;
    }

    int pass(int hours) {
        if (hours < 0 || hours > 99) return NONE;
        keepStep(w.pans.clone(), w.hour);
        for (int i = 0; i < hours; i++) w.hour = w.hour == 23 ? 0 : w.hour + 1;
        return w.hour;
    }

    int played(int text) {
        if (text < 0 || text >= w.texts.size()) return -2;
        List<Clause> clauses = w.texts.get(text).clauses;
        for (int i = 0; i < clauses.size(); i++) {
            Clause c = clauses.get(i);
            int done = switch (c.kind) {
                case "put" -> put(c.one, c.other);
                case "take" -> take(c.one);
                case "wait" -> pass(c.one);
                default -> 0;
            };
            if (done == NONE) return i;
        }
        return NONE;
    }

    int undo() {
        if (w.steps.isEmpty()) return NONE;
        Step step = w.steps.removeLast();
        w.pans = step.pans.clone();
        w.hour = step.hour;
        return w.steps.size();
    }

    int of(int thing, int what) {
        if (thing < 0 || thing >= w.things.size()) return -2;
        Thing t = w.things.get(thing);
        return switch (what) {
            case 0 -> t.weight;
            case 1 -> t.sort;
            case 2 -> w.pans[thing];
            case 3, 4 -> (int) bears(thing, t.weight, t.sort, what - 3, w.hour, w.wet, w.wind);
            default -> -2;
        };
    }

    int now(int what) {
        return switch (what) {
            case 0, 1 -> (int) load(what, w.hour, w.wind);
            case 2 -> (int) moment();
            case 3 -> lean(moment(), w.dull);
            case 4 -> safe() ? 1 : 0;
            default -> -100000000;
        };
    }

    /** Every safe order of the set, the lowest first; null if the set can't be asked for. */
    List<List<Integer>> orders(int set, int pans) {
        for (int i = 0; i < 32; i++) {
            boolean in = (set >>> i & 1) == 1;
            if (in && (i >= w.things.size() || w.pans[i] != NONE)) return null;
            if (!in && (pans >>> i & 1) == 1) return null;
        }
        if (Integer.bitCount(set) > 10) return null;
        List<List<Integer>> found = new ArrayList<>();
        extend(set, pans, new ArrayList<>(), found);
        return found;
    }

    void extend(int set, int pans, List<Integer> laid, List<List<Integer>> found) {
        if (set == 0) found.add(new ArrayList<>(laid));
        for (int i = 0; i < 12; i++) {
            if ((set >> i & 1) == 0) continue;
            w.pans[i] = pans >> i & 1;
            laid.add(i);
            if (safe()) extend(set & ~(1 << i), pans, laid, found);
            laid.remove(laid.size() - 1);
            w.pans[i] = NONE;
        }
    }

    long greatestTurn(List<Integer> order, int pans) {
        long greatest = 0;
        for (int i : order) {
            w.pans[i] = pans >> i & 1;
            greatest = Math.max(greatest, Math.abs(moment()));
        }
        for (int i : order) w.pans[i] = NONE;
        return greatest;
    }

    long loadings(int set, int pans) {
        List<List<Integer>> orders = orders(set, pans);
        return orders == null ? NONE : orders.size();
    }

    int gentle(int set, int pans, int what) {
        List<List<Integer>> orders = orders(set, pans);
        if (orders == null || orders.isEmpty() || what < NONE) return NONE;
        List<Integer> best = null;
        long least = Long.MAX_VALUE;
        for (List<Integer> order : orders) {
            long turn = greatestTurn(order, pans);
            if (turn < least) {
                least = turn;
                best = order;
            }
        }
        if (what == NONE) return (int) least;
        return what < best.size() ? best.get(what) : NONE;
    }

    int reading(int pan, int beam) {
        if (pan < 0 || pan > 1 || beam < 0 || beam > 2 || w.readings.size() == 10) return NONE;
        w.readings.add(new Reading(pan, beam, w.l, w.r, w.dull, w.hour, w.wet, w.wind,
            load(0, w.hour, w.wind), load(1, w.hour, w.wind)));
        return w.readings.size();
    }

    int forget() {
        int count = w.readings.size();
        w.readings.clear();
        return count;
    }

    boolean fits(Reading reading, int x, int l, int r) {
        long borne = bears(12, x, 0, reading.pan, reading.hour, reading.wet, reading.wind);
        long left = reading.left + (reading.pan == 0 ? borne : 0);
        long right = reading.right + (reading.pan == 1 ? borne : 0);
        return lean(l * left - r * right + reading.wind * 10L, reading.dull) == reading.beam;
    }

    int span(int what) {
        List<Integer> all = new ArrayList<>();
        for (int x = 1; x <= 999; x++) {
            boolean fit = true;
            for (Reading reading : w.readings) fit = fit && fits(reading, x, reading.l, reading.r);
            if (fit) all.add(x);
        }
        return switch (what) {
            case 0 -> all.size();
            case 1 -> all.isEmpty() ? NONE : all.get(0);
            case 2 -> all.isEmpty() ? NONE : all.get(all.size() - 1);
            default -> NONE;
        };
    }

    int bent(int x, int what) {
        if (x < 1 || x > 999 || what < 0 || what > 1) return NONE;
        List<Integer> all = new ArrayList<>();
        for (int l = 1; l <= 20; l++) {
            for (int r = 1; r <= 20; r++) {
                boolean fit = true;
                for (Reading reading : w.readings) fit = fit && fits(reading, x, l, r);
                if (fit) all.add(100 * l + r);
            }
        }
        return what == 0 ? all.size() : all.isEmpty() ? NONE : all.get(0);
    }

    int balanced(int load, int what) {
        if (load < 1 || load > 999 || what < 0 || what > 2) return NONE;
        int[] best = null;
        int n = w.things.size();
        int ways = 1;
        for (int i = 0; i < n; i++) ways *= 3;
        for (int way = 0; way < ways; way++) {
            int used = 0;
            int beside = 0;
            int weight = 0;
            for (int i = 0, rest = way; i < n; i++, rest /= 3) {
                if (rest % 3 > 0) used |= 1 << i;
                if (rest % 3 == 1) weight += w.things.get(i).weight;
                if (rest % 3 == 2) {
                    beside |= 1 << i;
                    weight -= w.things.get(i).weight;
                }
            }
            int[] found = {Integer.bitCount(used), used, beside};
            if (weight == load && (best == null || Arrays.compare(found, best) < 0)) best = found;
        }
        return best == null ? NONE : best[what];
    }

    static boolean covers(int[] weights, int n) {
        Set<Integer> loads = new HashSet<>(Set.of(0));
        for (int weight : weights) {
            Set<Integer> more = new HashSet<>(loads);
            for (int load : loads) {
                more.add(load + weight);
                more.add(load - weight);
            }
            loads = more;
        }
        for (int load = 1; load <= n; load++) {
            if (!loads.contains(load)) return false;
        }
        return true;
    }

    /** The first row of so many rising numbers, by the first number, then the next, .., that covers 1 .. n. */
    static int[] firstCover(int n, int[] chosen, int count) {
        if (chosen.length == count) return Arrays.stream(chosen).sum() >= n && covers(chosen, n) ? chosen : null;
        int from = chosen.length == 0 ? 1 : chosen[chosen.length - 1] + 1;
        // one heavier than n and all the lighter ones together is of no use
        for (int weight = from; weight <= n + Arrays.stream(chosen).sum() + 1; weight++) {
            int[] more = Arrays.copyOf(chosen, chosen.length + 1);
            more[chosen.length] = weight;
            int[] found = firstCover(n, more, count);
            if (found != null) return found;
        }
        return null;
    }

    static int[] cover(int n) {
        for (int count = 1; ; count++) {
            int[] found = firstCover(n, new int[0], count);
            if (found != null) return found;
        }
    }

    static int weights(int n, int i) {
        if (n < 1 || n > 40) return NONE;
        int[] found = cover(n);
        return i == NONE ? found.length : i >= 0 && i < found.length ? found[i] : NONE;
    }

    int rest(int seed, int n, int what) {
        if (seed < 0 || seed > 9999 || n < 1 || n > 99 || what < 0 || what > 1) return NONE;
        long x = seed * 7L + 17;
        StringBuilder hours = new StringBuilder();
        for (int i = 0; i < n; i++) {
            int hour = (w.hour + i) % 24;
            int wind = (int) (x % 19) - 9;
            long moment = w.l * load(0, hour, wind) - w.r * load(1, hour, wind) + 10L * wind;
            hours.append(lean(moment, w.dull) == 0 ? 'L' : ' ');
            x = (x * 167 + 43) % 30089;
        }
        int longest = 0;
        for (String row : hours.toString().split(" ")) longest = Math.max(longest, row.length());
        return what == 0 ? (int) hours.chars().filter(c -> c == 'L').count() : longest;
    }

    int image() {
        kept = w.copy();
        return w.things.size();
    }

    int back() {
        w = kept.copy();
        return w.things.size();
    }

    int bits(int pan) {
        int bits = 0;
        for (int i = 0; i < 12; i++) bits |= w.pans[i] == pan ? 1 << i : 0;
        return bits;
    }

    int about(int what) {
        return switch (what) {
            case 0 -> w.things.size();
            case 1 -> w.l;
            case 2 -> w.r;
            case 3 -> w.dull;
            case 4 -> w.hour;
            case 5 -> w.wet;
            case 6 -> w.wind;
            case 7 -> w.texts.size();
            case 8 -> w.ruling;
            case 9 -> w.steps.size();
            case 10 -> w.readings.size();
            case 11 -> tape.length();
            case 12, 13 -> bits(what - 12);
            default -> -100;
        };
    }
}
