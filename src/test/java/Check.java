/** What all tests of the project share: counting wrong answers, and telling rules as texts. */
final class Check {
    static final int NOTHING = -1000000;
    private Document document;
    private String sentence = "";
    private int wrong = 0;
    private int asked = 0;
    private int sentences = 0;
    private int askedBefore = 0;

    /** What is asked from here on looks at a sentence that stands under a head of the document. */
    void of(String head, String words) {
        endSentence();
        sentence = head + ", '" + words + "': ";
        sentences++;
        askedBefore = asked;
        if (document == null) {
            document = new Document();
        }
        if (!document.has(head, words)) {
            wrong++;
            System.out.println(sentence + "does not stand there");
        }
    }

    private void endSentence() {
        if (sentences > 0 && asked == askedBefore) {
            wrong++;
            System.out.println(sentence + "nothing was asked");
        }
    }

    void due(String call, long got, long want) {
        asked++;
        if (got != want) {
            wrong++;
            System.out.println(sentence + call + " answered " + got + ", due is " + want);
        }
    }

    void due(String call, boolean got, boolean want) {
        due(call, got ? 1 : 0, want ? 1 : 0);
    }

    /** Ends a test that looks at all promises by their sentences. */
    void endOfSentences(boolean tellRest) {
        endSentence();
        if (document == null) {
            document = new Document();
        }
        for (String head : document.unquotedHeads()) {
            wrong++;
            System.out.println(head + " has no test by its sentences");
        }
        if (tellRest) {
            document.tellUnquoted();
        }
        System.out.println(sentences + " sentences");
        end();
    }

    void end() {
        System.out.println(asked + " answers looked at, " + wrong + " wrong");
        if (wrong != 0) {
            System.exit(1);
        }
    }

    /** An object with some THINGS, all of KIND 0 and OWNER 0. */
    static ThingPost withThings(int n) {
        ThingPost x = new ThingPost();
        for (int i = 0; i < n; i++) {
            x.thing(0, 0);
        }
        return x;
    }

    /** Puts a text on the (empty) tape. */
    static void type(ThingPost x, String text) {
        for (int at = 0; at < text.length(); at += 20) {
            x.feed(four(text, at), four(text, at + 4), four(text, at + 8), four(text, at + 12), four(text, at + 16));
        }
        x.end(text.length());
    }

    private static int four(String text, int at) {
        int number = 0;
        for (int i = at; i < at + 4; i++) {
            number = number << 8 | (i < text.length() ? text.charAt(i) & 255 : 0);
        }
        return number;
    }

    static int rule(ThingPost x, int owner, String text) {
        type(x, text);
        return x.rule(owner);
    }

    /** What rule() answers to a fault at a place. */
    static int fault(int place, int why) {
        return -2 - (1 + 8 * place + why);
    }

    static void ticks(ThingPost x, int n) {
        for (int i = 0; i < n; i++) {
            x.tick();
        }
    }
}
