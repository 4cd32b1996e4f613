/** Answers against what is due, each under the sentence of the document that asks for it. */
final class Due {
    private static final Document DOCUMENT = new Document();
    private static String sentence = "";
    private static int wrong = 0;
    private static int asked = 0;

    private Due() { }

    private static void quote(String heading, String words) {
        sentence = heading + " " + words;
        if (!DOCUMENT.quote(heading, words)) tell("the document does not say this");
    }

    static void term(String words) {
        quote("Terms", words);
    }

    static void promise(int number, String words) {
        quote("Promise " + number + ":", words);
    }

    static void tell(String fault) {
        wrong++;
        System.out.println("[" + sentence + "] " + fault);
    }

    static void is(String call, long got, long want) {
        asked++;
        if (got != want) tell(call + " answered " + got + ", due is " + want);
    }

    static void is(String call, boolean got, boolean want) {
        is(call, got ? 1 : 0, want ? 1 : 0);
    }

    static void end() {
        sentence = "all";
        for (String words : DOCUMENT.leftOver()) tell("no test quotes this: " + words);
        System.out.println(wrong == 0 ? "all " + asked + " edges hold" : wrong + " edges do not hold");
        if (wrong != 0) System.exit(1);
    }
}
