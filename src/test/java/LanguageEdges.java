import java.util.List;

/** Edges of the language of texts: its tokens, clauses, sums, asks and faults (the second part of the terms). */
final class LanguageEdges {
    private static final String NEVER_WRITTEN = "@[`{/:!\"$%&',.?\\]^_|}~\t\r\u000b\u0000\u001f\u007f\u0080\u00a0\u00e9\u00ff";

    private LanguageEdges() { }

    static void run() {
        everyByte();
        blanks();
        longestToken();
        clauses();
        clausesCutShort();
        clausesTwentyFour();
        grammarOfAsks();
        grammarOfSums();
        namesOfTheClause();
        valuesOfNames();
        fromTheLeft();
        division();
        held();
        heldNames();
        truth();
        faultOne();
        faultTwo();
        faultThree();
        eightOpen();
        nothingIsLeftOfAFault();
        faultFour();
        faultFive();
        faultSix();
        firstAndLeast();
    }

    private static void stands(String text) {
        fault(text, 0, -1);
    }

    private static void fault(String text, int number, int place) {
        DownByAHair x = new DownByAHair();
        Due.is("text of " + text, Tape.read(x, text), number == 0 ? 0 : -1);
        Due.is("fault of " + text, x.fault(0), number);
        Due.is("place of " + text, x.fault(1), place);
    }

    private static boolean isBlank(char sign) {
        return sign == 32 || sign == 10;
    }

    private static boolean isDigit(char sign) {
        return sign >= 48 && sign <= 57;
    }

    private static boolean isLetter(char sign) {
        return sign >= 65 && sign <= 90 || sign >= 97 && sign <= 122;
    }

    private static boolean isOneOf(char sign, String signs) {
        return signs.indexOf(sign) >= 0;
    }

    /** A text that stands if the place is none, else has fault 1 there. */
    private static void standsOr(String text, int place) {
        fault(text, place < 0 ? 0 : 1, place);
    }

    private static void everyByte() {
        Due.term("TOKENS, blanks (32, 10) aside: letters a .. z, A .. Z one behind the other (one TOKEN), digits likewise (NUMBERS, 0 .. 9999), <= >= < > = # + - * / ( ) ; (the longest).");
        for (int b = 0; b < 256; b++) {
            char s = (char) b;
            boolean free = isBlank(s);
            standsOr(s + "wait 1;", free ? -1 : 0);
            standsOr("wait" + s + "1;", free || isDigit(s) ? -1 : isLetter(s) ? 0 : 4);
            standsOr("wait 1" + s + ";", free || isDigit(s) ? -1 : s == ';' ? 7 : 6);
            standsOr("wait 1;" + s, free ? -1 : 7);
            standsOr("bears " + s + "1;", free || isDigit(s) || s == '-' ? -1 : s == '(' ? 8 : 6);
            standsOr("bears 1" + s + "1;", isDigit(s) || isOneOf(s, "+-*/") ? -1 : free || s == ';' ? 8 : 7);
            standsOr("safe 1" + s + "1;", isOneOf(s, "<>=#") ? -1 : isDigit(s) || isOneOf(s, "+-*/") ? 8 : free ? 7 : 6);
            standsOr("safe 1<" + s + "1;", free || isDigit(s) || isOneOf(s, "-=") ? -1 : s == '(' ? 9 : 7);
        }
        for (char s : NEVER_WRITTEN.toCharArray()) fault("bears hour" + s + ";", 1, s == '/' ? 11 : 10);
    }

    private static void blanks() {
        Due.term("TOKENS, blanks (32, 10) aside:");
        stands(" \n \n");
        stands("\n\nbears \n ( 1 \n + \n 2 ) ; \n put 1 on 1 ;\n");
        stands("bears(1+2);put 1on 1;take 1;wait 1;safe 1<2and 1<2or 1<2;");
        fault("be ars 1;", 1, 0);
        fault("bears 1 0;", 1, 8);
        fault("bears 1\n0;", 1, 8);
    }

    private static void longestToken() {
        Due.term("<= >= < > = # + - * / ( ) ; (the longest).");
        stands("safe 1<=2;");
        stands("safe 1>=2;");
        stands("safe 1<-2;");
        fault("safe 1< =2;", 1, 8);
        fault("safe 1> =2;", 1, 8);
        fault("safe 1=<2;", 1, 7);
        fault("safe 1=>2;", 1, 7);
        fault("safe 1<==2;", 1, 8);
        fault("safe 1<<2;", 1, 7);
        fault("safe 1<>2;", 1, 7);
        fault("safe 1==2;", 1, 7);
        fault("safe 1##2;", 1, 7);
        fault("safe 1#=2;", 1, 7);
        fault("waitwait 1;", 1, 0);
        fault("wait 1;w", 1, 7);
        fault("safe notleft<1;", 1, 5);
        fault("safe 1<2 andnot 1<2;", 1, 9);
        for (String word : new String[] {"Wait", "WAIT", "waiT", "wai", "waits", "awaiT"}) fault(word + " 1;", 1, 0);
        for (String name : new String[] {"Hour", "HOUR", "hours", "hou", "winds", "we", "wetwind"}) fault("bears " + name + ";", 1, 6);
        Due.is("all digits are one number", sum("0123"), 123);
        Due.is("digits end at a letter", ask("1<2and 3<4or 5<6"), true);
    }

    private static void clauses() {
        Due.term("{CLAUSE}, 24 at most: bears SUM ; or safe EITHER ; (each once) or put NUMBER on NUMBER ; or take NUMBER ; or wait NUMBER ;.");
        stands("");
        for (String text : new String[] {"bears 0;", "safe 0<0;", "put 0 on 0;", "take 0;", "wait 0;"}) {
            stands(text);
            fault(text.replace(";", ""), 1, text.length() - 1);
            fault(text + ";", 1, text.length());
            fault(text.replace(";", " 0;"), 1, text.length());
            fault(text.replace("0", ""), 1, text.indexOf(' ') + (text.startsWith("put") ? 2 : 1));
        }
        stands("safe 1=1;bears 1;");
        stands("bears 1;safe 1=1;");
        stands("put 0 on 0;put 0 on 0;take 0;take 0;wait 0;wait 0;");
        fault("put 0 0;", 1, 6);
        fault("put on 0;", 1, 4);
        fault("put 0 on on 0;", 1, 9);
        fault("take 0 on 0;", 1, 7);
        fault("take (0);", 1, 5);
        fault("wait -0;", 1, 5);
        fault("put wind on 0;", 1, 4);
        fault("wait hour;", 1, 5);
        fault("take thing;", 1, 5);
        fault("put 1+1 on 0;", 1, 5);
        for (String word : new String[] {"on", "or", "and", "not", "hour", "weight", "left", "1", "(", "-", "<"}) fault(word, 1, 0);
    }

    /** Cut behind each of its tokens but the last, a clause has its fault at the end, blanks or not. */
    private static void clausesCutShort() {
        Due.term("FAULTS, the first as TOKENS are come to, at the TOKEN's first byte (of the end at the length), of one the least: 1 it can't stand there, or is none.");
        for (String text : new String[] {"bears ( 1 + - hour ) * 2 / ( 3 ) ;", "safe not 1 < 2 and 3 >= - 4 or ( 5 ) # 6 ;", "put 1 on 1 ;", "take 1 ;", "wait 1 ;"}) {
            List<String> tokens = List.of(text.split(" "));
            for (int n = 1; n < tokens.size(); n++) {
                String cut = String.join(" ", tokens.subList(0, n));
                fault(cut, 1, cut.length());
                fault(cut + " \n ", 1, cut.length() + 3);
                fault("wait 0;" + cut, 1, cut.length() + 7);
                fault(cut + " !", 1, cut.length() + 1);
            }
        }
    }

    private static void clausesTwentyFour() {
        Due.term("{CLAUSE}, 24 at most:");
        stands("wait 0;".repeat(23));
        stands("wait 0;".repeat(24));
        stands("bears 1;safe 1=1;" + "take 0;".repeat(22) + " \n");
        stands("put 0 on 0;".repeat(24));
        stands("wait 0;".repeat(22) + "safe 1=1;bears 1;");
    }

    private static void grammarOfAsks() {
        Due.term("EITHER: BOTH {or BOTH}.");
        stands("safe 1<2;");
        stands("safe 1<2 or 1<2;");
        stands("safe 1<2" + " or 1<2".repeat(20) + ";");
        fault("safe or 1<2;", 1, 5);
        fault("safe 1<2 or or 1<2;", 1, 12);
        fault("safe 1<2 1<2;", 1, 9);
        fault("safe 1<2 or;", 1, 11);
        fault("safe 1 or 2;", 1, 7);
        Due.term("BOTH: ASK {and ASK}.");
        stands("safe 1<2 and 1<2;");
        stands("safe 1<2" + " and 1<2".repeat(20) + ";");
        fault("safe and 1<2;", 1, 5);
        fault("safe 1<2 and or 1<2;", 1, 13);
        fault("safe 1<2 and;", 1, 12);
        fault("bears 1 and 2;", 1, 8);
        fault("bears 1 or 2;", 1, 8);
        Due.term("ASK: not ASK, or SUM one of < <= > >= = # (unlike) SUM.");
        for (String relation : new String[] {"<", "<=", ">", ">=", "=", "#"}) {
            stands("safe 1" + relation + "2;");
            stands("safe not 1+1" + relation + "-2*3 and not not 1" + relation + "(2);");
            fault("safe 1" + relation + "2" + relation + "3;", 1, 7 + relation.length());
            fault("safe " + relation + "2;", 1, 5);
            fault("safe 1" + relation + ";", 1, 6 + relation.length());
            fault("safe (1" + relation + "2);", 1, 7);
            fault("bears 1" + relation + "2;", 1, 7);
        }
        fault("safe 1;", 1, 6);
        fault("safe not;", 1, 8);
        fault("safe not 1;", 1, 10);
        fault("safe 1 not<2;", 1, 7);
        fault("safe 1<not 2;", 1, 7);
        fault("safe (not 1)<2;", 1, 6);
        fault("safe -not 1<2;", 1, 6);
        fault("safe 1+not 1<2;", 1, 7);
        fault("bears not 1;", 1, 6);
        fault("safe 1<2 not 1<2;", 1, 9);
    }

    private static void grammarOfSums() {
        Due.term("SUM: PRODUCT {+ or - PRODUCT}.");
        stands("bears 1+2-3+4;");
        fault("bears +1;", 1, 6);
        fault("bears 1+;", 1, 8);
        fault("bears 1++2;", 1, 8);
        stands("bears 1--2;");
        stands("bears 1+-2;");
        fault("bears 1-+2;", 1, 8);
        Due.term("PRODUCT: ONE {* or / ONE}.");
        stands("bears 1*2/3*4;");
        fault("bears *1;", 1, 6);
        fault("bears /1;", 1, 6);
        fault("bears 1*;", 1, 8);
        fault("bears 1**2;", 1, 8);
        fault("bears 1*/2;", 1, 8);
        stands("bears 1*-2/-3;");
        Due.term("ONE: NUMBER, NAME, ( SUM ), - ONE.");
        stands("bears hour;");
        stands("bears (1);");
        stands("bears -(-1);");
        fault("bears ();", 1, 7);
        fault("bears (1;", 1, 8);
        fault("bears 1);", 1, 7);
        fault("bears (1));", 1, 9);
        fault("bears (1)(2);", 1, 9);
        fault("bears 1(2);", 1, 7);
        fault("bears hour wet;", 1, 11);
        fault("bears hour(1);", 1, 10);
        fault("bears -;", 1, 7);
        fault("bears (-);", 1, 8);
        fault("safe (1+2<3);", 1, 9);
        fault("safe ((1)<2;", 1, 9);
        fault("safe (1 and 2)<3;", 1, 8);
    }

    private static void namesOfTheClause() {
        Due.term("NAMES: hour, wet, wind; of bears besides: thing, weight, sort, pan; of safe besides: left, right (LOADS), moment, turned (MOMENT without its sign).");
        for (String name : new String[] {"hour", "wet", "wind"}) {
            stands("bears " + name + ";");
            stands("safe " + name + "<" + name + ";");
        }
        for (String name : new String[] {"thing", "weight", "sort", "pan"}) stands("bears " + name + ";");
        for (String name : new String[] {"left", "right", "moment", "turned"}) stands("safe " + name + "<" + name + ";");
    }

    /** What thing 11, of weight 999 and sort 9, bears by a sum in the right pan at hour 23, wet 9, wind 9. */
    private static int sum(String sum) {
        DownByAHair x = new DownByAHair();
        for (int i = 0; i < 11; i++) x.thing(1, 0);
        x.thing(999, 9);
        x.weather(23, 9, 9);
        Due.is("read bears " + sum, Tape.read(x, "bears " + sum + ";"), 0);
        x.by(0);
        return x.of(11, 4);
    }

    /** What thing 0, of weight 1 and sort 0, bears by a sum in the left pan at hour 0, wet 0, wind -9. */
    private static int leastSum(String sum) {
        DownByAHair x = new DownByAHair();
        x.thing(1, 0);
        x.weather(0, 0, -9);
        Due.is("read bears " + sum, Tape.read(x, "bears " + sum + ";"), 0);
        x.by(0);
        return x.of(0, 3);
    }

    private static boolean ask(String ask) {
        DownByAHair x = new DownByAHair();
        Due.is("read safe " + ask, Tape.read(x, "safe " + ask + ";"), 0);
        x.by(0);
        return x.now(4) == 1;
    }

    private static void valuesOfNames() {
        Due.term("NAMES: hour, wet, wind; of bears besides: thing, weight, sort, pan; of safe besides: left, right (LOADS), moment, turned (MOMENT without its sign).");
        String[] names = {"hour", "wet", "wind", "thing", "weight", "sort", "pan"};
        int[] least = {0, 0, -9, 0, 1, 0, 0};
        int[] most = {23, 9, 9, 11, 999, 9, 1};
        for (int i = 0; i < names.length; i++) {
            Due.is("least " + names[i], leastSum(names[i] + "+100"), least[i] + 100);
            Due.is("most " + names[i], sum(names[i] + "+100"), most[i] + 100);
        }
        Due.is("loads of nothing", ask("left=0 and right=0 and moment=0 and turned=0"), true);
        DownByAHair x = new DownByAHair();
        x.thing(999, 0);
        x.thing(1, 0);
        x.beam(1, 99, 0);
        x.weather(23, 9, -9);
        x.put(0, 1);
        x.put(1, 0);
        Tape.read(x, "safe left=1 and right=999 and moment=1-99*999-90 and turned=99*999+89 and hour=23 and wet=9 and wind=-9;");
        x.by(0);
        Due.is("a moment below 0", x.now(4), 1);
        x.beam(99, 1, 0);
        x.take(0);
        Tape.read(x, "safe left=1 and right=999 and moment=99-999-90 and turned=990;");
        x.by(1);
        Due.is("by other arms", x.now(4), 1);
    }

    private static String number(int value) {
        if (value < 0) return "-" + "(" + number(-value) + ")";
        return value <= 9999 ? String.valueOf(value) : "(" + value / 1000 + "*1000+" + value % 1000 + ")";
    }

    private static void value(String sum, int due) {
        Due.is(sum + " = " + due, ask(sum + "=" + number(due)), true);
        Due.is(sum + " # " + due, ask(sum + "#" + number(due)), false);
    }

    private static void fromTheLeft() {
        Due.term("From the left;");
        value("8-4-2", 2);
        value("8-4+2", 6);
        value("8/4/2", 1);
        value("8/4*2", 4);
        value("8*4/3", 10);
        value("7/2*2", 6);
        value("2+3*4", 14);
        value("2*3+4", 10);
        value("20-2*3-4", 10);
        value("(2+3)*4", 20);
        value("2*(3-(4-5))", 8);
        value("-2*-3", 6);
        value("-2-3", -5);
        value("--2", 2);
        value("-(2-3)", 1);
        value("1--1", 2);
    }

    private static void division() {
        Due.term("/ cuts towards 0, by 0 it is 0;");
        int[][] cases = {{7, 2, 3}, {-7, 2, -3}, {7, -2, -3}, {-7, -2, 3}, {1, 2, 0}, {-1, 2, 0}, {0, 5, 0}, {6, 2, 3}, {9999, 9999, 1},
            {5, 0, 0}, {-5, 0, 0}, {0, 0, 0}, {9999, 0, 0}, {9999, 1, 9999}, {9999, -1, -9999}};
        for (int[] c : cases) value(number(c[0]) + "/" + number(c[1]), c[2]);
        value("7/(3-3)", 0);
        value("1+7/0", 1);
        value("7/0*5+2", 2);
        value("1000*1000/-1", -1000000);
    }

    private static void held() {
        Due.term("what is above 1000000 (below the same less) is that, at each step.");
        value("1000*1000", 1000000);
        value("999*1000+999", 999999);
        value("999*1000+1000", 1000000);
        value("999*1000+1001", 1000000);
        value("-999*1000-999", -999999);
        value("-999*1000-1000", -1000000);
        value("-999*1000-1001", -1000000);
        value("1001*1000", 1000000);
        value("-1001*1000", -1000000);
        value("1001*-1000", -1000000);
        value("9999*9999", 1000000);
        value("-9999*9999", -1000000);
        value("1000*1000+1-1", 999999);
        value("-1000*1000-1+1", -999999);
        value("1000*1000*2/2", 500000);
        value("-1000*1000*2/2", -500000);
        value("9999*9999/1000", 1000);
        value("1000*1000+1000*1000-1000*1000", 0);
        value("-1000*1000-1000*1000+1000*1000", 0);
        value("(1000*1000)*(1000*1000)", 1000000);
        value("(1000*1000)*-(1000*1000)", -1000000);
        value("9999*9999*9999*9999*9999*9999", 1000000);
        value("-(-9999*9999-5)", 1000000);
    }

    /** A moment can be more than a value: as a name it is held as any other. */
    private static void heldNames() {
        Due.term("what is above 1000000 (below the same less) is that, at each step.");
        for (int pan = 0; pan < 2; pan++) {
            DownByAHair x = Made.ruled("bears 9999;", 1, 1);
            x.beam(99, 99, 0);
            x.put(0, pan);
            String sign = pan == 0 ? "" : "-";
            Tape.read(x, "bears 9999;safe moment=" + sign + "(989*1000+901) and turned=989*1000+901;");
            Tape.read(x, "bears 9999;safe moment=" + sign + "1000*1000 and turned=1000*1000 and turned/1000=1000;");
            x.by(1);
            Due.is("within", x.now(4), 1);
            x.by(0);
            x.put(1, pan);
            x.by(2);
            Due.is("beyond", x.now(4), 1);
            Due.is("the moment itself is not held", x.now(2), (pan == 0 ? 1 : -1) * 99 * 2 * 9999);
        }
    }

    /** An ask alone, and beside others that leave it as it is or turn it around. */
    private static void related(String ask, boolean due) {
        Due.is(ask, ask(ask), due);
        Due.is("not " + ask, ask("not " + ask), !due);
        Due.is("not not " + ask, ask("not not " + ask), due);
        Due.is(ask + " and so", ask(ask + " and 1=1"), due);
        Due.is("so and " + ask, ask("1=1 and " + ask), due);
        Due.is(ask + " or not so", ask(ask + " or 1=2"), due);
        Due.is("not so or " + ask, ask("1=2 or " + ask), due);
    }

    private static void truth() {
        Due.term("or and and look at both sides always.");
        String[] so = {"1=2", "1=1"};
        for (int bits = 0; bits < 8; bits++) {
            boolean a = (bits & 1) != 0;
            boolean b = (bits & 2) != 0;
            boolean c = (bits & 4) != 0;
            String x = so[bits & 1];
            String y = so[bits >> 1 & 1];
            String z = so[bits >> 2];
            Due.is("or and " + bits, ask(x + " or " + y + " and " + z), a || b && c);
            Due.is("and or " + bits, ask(x + " and " + y + " or " + z), a && b || c);
            Due.is("and and " + bits, ask(x + " and " + y + " and " + z), a && b && c);
            Due.is("or or " + bits, ask(x + " or " + y + " or " + z), a || b || c);
            Due.is("not and " + bits, ask("not " + x + " and " + y + " and not " + z), !a && b && !c);
            Due.is("not or " + bits, ask("not " + x + " or " + y + " and not not " + z), !a || b && c);
        }
        for (String relation : new String[] {"<", "<=", ">", ">=", "=", "#"}) {
            boolean unlike = relation.equals("#");
            related("9-3" + relation + "2+5*1", unlike || relation.charAt(0) == '<');
            related("9-1" + relation + "2+5*1", unlike || relation.charAt(0) == '>');
            related("9-2" + relation + "2+5*1", relation.endsWith("="));
        }
        Due.is("a side by 0", ask("1=1 or 1/0=1"), true);
        Due.is("a side by 0", ask("1=2 and 1/0=0"), false);
        for (int a = -1; a <= 1; a++) {
            for (int b = -1; b <= 1; b++) {
                Due.is(a + "<" + b, ask(a + "<" + b), a < b);
                Due.is(a + "<=" + b, ask(a + "<=" + b), a <= b);
                Due.is(a + ">" + b, ask(a + ">" + b), a > b);
                Due.is(a + ">=" + b, ask(a + ">=" + b), a >= b);
                Due.is(a + "=" + b, ask(a + "=" + b), a == b);
                Due.is(a + "#" + b, ask(a + "#" + b), a != b);
            }
        }
    }

    private static void faultOne() {
        Due.term("1 it can't stand there, or is none.");
        for (String none : new String[] {"!", "\t", "\r", "\u0000", "\u00ff", "_", ".", ",", "[", "&", "x", "Bears", "ON"}) {
            fault(none, 1, 0);
            fault("bears " + none, 1, 6);
            fault("bears 1 " + none, 1, 8);
            fault("bears 1;" + none, 1, 8);
            fault("put 1 " + none, 1, 6);
            fault("safe 1 < " + none, 1, 9);
        }
    }

    private static void faultTwo() {
        Due.term("2 a NUMBER above 9999; of put and take a THING above 11, a PAN above 1; of wait above 99.");
        for (String number : new String[] {"0", "9999", "09999", "0000000000000009999", "00000"}) {
            stands("bears " + number + ";");
            stands("safe " + number + "<" + number + ";");
        }
        String[] beyond = {"10000", "10001", "99999", "010000", "2147483647", "2147483648", "4294967296", "4294967297", "18446744073709551616", "9".repeat(200)};
        for (String number : beyond) {
            fault("bears " + number + ";", 2, 6);
            fault("bears 1+(2-" + number + ");", 2, 11);
            fault("safe 1<" + number + ";", 2, 7);
            fault("put " + number + " on 0;", 2, 4);
            fault("put 0 on " + number + ";", 2, 9);
            fault("take " + number + ";", 2, 5);
            fault("wait " + number + ";", 2, 5);
        }
        for (int n = 0; n <= 101; n++) {
            fault("put " + n + " on 0;", n > 11 ? 2 : 0, n > 11 ? 4 : -1);
            fault("put 0 on " + n + ";", n > 1 ? 2 : 0, n > 1 ? 9 : -1);
            fault("take " + n + ";", n > 11 ? 2 : 0, n > 11 ? 5 : -1);
            fault("wait " + n + ";", n > 99 ? 2 : 0, n > 99 ? 5 : -1);
        }
        fault("put 12 on 2;", 2, 4);
        fault("wait 100", 2, 5);
        fault("put 0011 on 01;take 00;wait 0099;", 0, -1);
    }

    /** Openings of a sum by the bits of a number, ( or -, from the highest of so many on. */
    private static String openings(int bits, int count) {
        StringBuilder text = new StringBuilder();
        for (int i = count - 1; i >= 0; i--) text.append((bits >> i & 1) == 1 ? '(' : '-');
        return text.toString();
    }

    private static void faultThree() {
        Due.term("3 the 9th of ( not and - (of one ONE) that are open around one another (at it).");
        for (int bits = 0; bits < 256; bits++) {
            String open = openings(bits, 8);
            String close = ")".repeat(Integer.bitCount(bits));
            stands("bears " + open + "1" + close + ";");
            fault("bears " + open + "(1", 3, 14);
            fault("bears " + open + "-1", 3, 14);
            // a - right ahead of the 1 is open no more behind it
            String behind = "bears " + open + "1*(2";
            boolean closed = bits % 2 == 0;
            fault(behind, closed ? 1 : 3, closed ? behind.length() : behind.length() - 2);
        }
        for (int nots = 0; nots <= 8; nots++) {
            String safe = "safe " + "not ".repeat(nots);
            String open = "(".repeat(8 - nots);
            String close = ")".repeat(8 - nots);
            stands(safe + open + "1" + close + "<" + open + "1" + close + ";");
            stands(safe + "1<" + "-".repeat(8 - nots) + "1;");
            fault(safe + open + "(1", 3, safe.length() + 8 - nots);
            fault(safe + open + "-1", 3, safe.length() + 8 - nots);
            fault(safe + "1<" + open + "(1", 3, safe.length() + 2 + 8 - nots);
            fault(safe + "1<" + open + "-1", 3, safe.length() + 2 + 8 - nots);
            stands(safe + "1<2 and " + "not ".repeat(8) + "1<2 or " + "-".repeat(8) + "1<2;");
        }
        fault("safe " + "not ".repeat(9) + "1<2;", 3, 5 + 32);
        fault("safe 1<2 and " + "not ".repeat(9) + "1<2;", 3, 13 + 32);
        stands("bears " + "(1)+".repeat(20) + "-1--1*-1;");
        stands("bears -(-(-(-1)))*-(-(-(-1)))--(-(-(-1)));");
        stands("bears ((((((((1)+(1))-(1))*-1)/-1)+1)-1)+-1)+((((((((1))))))));");
        fault("bears ((((((((1)+(1))-(1))*-1)/-1)+1)-1)+-1)+(((((((((1", 3, 45 + 8);
        fault("bears (((((((1-(1-(1", 3, 18);
    }

    /** With a sum and a product begun in each of eight brackets, behind an or, an and and a relation. */
    private static void eightOpen() {
        Due.term("3 the 9th of ( not and - (of one ONE) that are open around one another (at it).");
        String deepest = "1+2*(".repeat(8) + "1+2*1" + ")".repeat(8);
        Due.is("eight brackets", sum(deepest), 1023);
        Due.is("behind all that can wait", ask("1=2 or 1=1 and 1023=" + deepest), true);
        Due.is("behind all that can wait", ask("1=2 or 1=1 and 1024=" + deepest), false);
        Due.is("nots and brackets", ask("1=2 or 1=1 and not not not not 63=" + "1+2*(".repeat(4) + "1+2*1" + ")".repeat(4)), true);
        Due.is("minuses and brackets", sum("99+-(9+-(9+-(9+-1*2)*2)*2)*2"), 99 - 2 * (9 - 2 * (9 - 2 * (9 - 2))));
    }

    /** What was open or waiting where a text had its fault is not so in the next one. */
    private static void nothingIsLeftOfAFault() {
        Due.term("3 the 9th of ( not and - (of one ONE) that are open around one another (at it).");
        String[] wrong = {"bears 1+2*(3-(4*-(5+-(!", "bears --------!", "bears ((((((((!", "safe not not not not 1<(!", "safe 1=1 or 1=1 and not 1<!"};
        for (String text : wrong) {
            DownByAHair x = new DownByAHair();
            x.thing(7, 0);
            Due.is("text " + text, Tape.read(x, text), -1);
            Due.is("fault of " + text, x.fault(0), 1);
            Due.is("the next", Tape.read(x, "bears ((((((((weight))))))))*3+1;safe not not not not not not not not 1<2;"), 0);
            x.by(0);
            Due.is("bears", x.of(0, 3), 22);
            Due.is("safe", x.now(4), 1);
            Due.is("a bracket that isn't open", Tape.read(x, "bears 1);"), -1);
            Due.is("fault", x.fault(0), 1);
        }
    }

    private static void faultFour() {
        Due.term("4 bears, safe for the second time (at it).");
        fault("bears 1;bears 1;", 4, 8);
        fault("bears 1; bears", 4, 9);
        fault("safe 1=1;safe 1=1;", 4, 9);
        fault("bears 1;wait 1;safe 1=1;take 1;bears 2;", 4, 31);
        fault("bears 1;wait 1;safe 1=1;take 1;safe 2=1;", 4, 31);
        fault("bears bears;", 1, 6);
        fault("bears 1 bears", 1, 8);
        stands("put 1 on 1;put 1 on 1;");
    }

    private static void faultFive() {
        Due.term("5 a NAME that isn't of that CLAUSE (at it).");
        for (String name : new String[] {"left", "right", "moment", "turned"}) {
            fault("bears " + name + ";", 5, 6);
            fault("bears 1+-( " + name, 5, 11);
            fault("safe 1=1;bears " + name, 5, 15);
            fault("bears 1 " + name, 1, 8);
            fault("wait " + name, 1, 5);
        }
        for (String name : new String[] {"thing", "weight", "sort", "pan"}) {
            fault("safe " + name + "<1;", 5, 5);
            fault("safe 1<" + name, 5, 7);
            fault("safe not (" + name, 5, 10);
            fault("bears 1;safe " + name, 5, 13);
            fault("safe 1 " + name, 1, 7);
            fault("put " + name, 1, 4);
        }
    }

    private static void faultSix() {
        Due.term("6 the 25th CLAUSE (at its first TOKEN).");
        String many = "wait 1;".repeat(24);
        for (String head : new String[] {"bears", "safe", "put", "take", "wait"}) {
            fault(many + head, 6, 168);
            fault(many + " \n" + head + " !", 6, 170);
        }
        fault("bears 1;safe 1=1;" + "wait 1;".repeat(22) + "wait 1;wait 1;", 6, 171);
        fault("wait 1;".repeat(42), 6, 168);
    }

    private static void firstAndLeast() {
        Due.term("FAULTS, the first as TOKENS are come to, at the TOKEN's first byte (of the end at the length), of one the least: 1 it can't stand there, or is none.");
        String many = "wait 1;".repeat(23);
        fault("bears 1;" + many + "bears", 4, 169);
        fault("safe 1=1;" + many + "safe", 4, 170);
        fault("bears 1;" + many + "safe", 6, 169);
        fault("wait 1;" + many + "on", 1, 168);
        fault("wait 1;" + many + "!", 1, 168);
        fault("wait 1;" + many + "10000", 1, 168);
        fault("bears 1 10000;", 1, 8);
        fault("put 1 10000;", 1, 6);
        fault("bears ((((((((1(", 1, 15);
        fault("bears ((((((((not 1", 1, 14);
        fault("safe " + "not ".repeat(8) + "1 not", 1, 39);
        fault("safe " + "not ".repeat(8) + "(not 1", 3, 37);
        fault("bears left+10000;!", 5, 6);
        fault("bears 10000+left;!", 2, 6);
        fault("bears 1!+left+10000;", 1, 7);
        fault("bears (((((((((left", 3, 14);
        fault("wait 100;!", 2, 5);
        fault("put 12 on 2", 2, 4);
        fault("bears 1;bears left;", 4, 8);
    }
}
