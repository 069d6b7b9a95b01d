/** The edges that the face and part I of the terms name: ticks, kinds, fields, things, words, clocks, SAID, GUESS. */
final class TermsOfWords {
    private static final int NO = Check.NOTHING;
    private static final String PART = "Terms I";
    private final Check check;

    TermsOfWords(Check check) {
        this.check = check;
    }

    void run() {
        calls();
        ticksAndOwners();
        kinds();
        leastAndMost();
        rate();
        toldLast();
        things();
        words();
        numbersOfWords();
        cameAndOnce();
        late();
        missed();
        clocks();
        errors();
        setsOfSpans();
        spansAndNow();
        spansStay();
        saidAsKnown();
        saidAmongWords();
        guessDown();
        guessUp();
        outsideEdges();
        outsideByWhom();
        outsideStays();
    }

    private void of(String words) {
        check.of(PART, words);
    }

    private void calls() {
        check.of("What it is", "An object is used for at most 512 calls after it has been made");
        ThingPost x = Check.withThings(2);
        x.kind(0, 500, 0);
        Check.ticks(x, 3);
        for (int call = 7; call < 508; call++) {
            x.set(0, 1);
        }
        check.due("call 508: a clock is set once more", x.set(0, 3), true);
        check.due("call 509: and of another one", x.set(1, 2), true);
        check.due("call 510: a word", x.word(0, 200, 3, 1, 2, 3), 0);
        check.due("call 511: it has its span by what was set last", x.words(0, 5), 3);
        check.due("call 512", x.missed(0, -1), 199);

        check.of("The public face", "public static final int NONE = -1;");
        check.due("NONE", ThingPost.NONE, -1);
        check.of("Terms VI", "The constants: `NONE = -1`: None.");
        check.due("NONE, in an answer", new ThingPost().wake(0), ThingPost.NONE);
    }

    private void ticksAndOwners() {
        of("TICKS 0 to 3999; NOW (0 at first).");
        ThingPost x = Check.withThings(1);
        check.due("NOW", x.count(0), 0);
        x.word(0, 1, 0, 5, NO, NO);
        check.due("said at 0 as known on 0", x.said(0, 0, 0, 0), 5);
        check.due("said at 3999 as known on 3999", x.said(0, 0, 3999, 3999), 5);
        check.due("said at -1", x.said(0, 0, -1, 0), NO);
        check.due("said as known on -1", x.said(0, 0, 0, -1), NO);
        check.due("said at 4000", x.said(0, 0, 4000, 0), NO);
        check.due("said as known on 4000", x.said(0, 0, 0, 4000), NO);
        check.due("an order until 3999", x.order(0, 1, 3999), 0);
        check.due("an order until 4000", x.order(0, 1, 4000), -1);

        of("OWNERS 0 to 7.");
        x = new ThingPost();
        check.due("a thing of owner 0", x.thing(0, 0), 0);
        check.due("a thing of owner 7", x.thing(0, 7), 1);
        check.due("a thing of owner 8", x.thing(0, 8), -1);
        check.due("a thing of owner -1", x.thing(0, -1), -1);
        check.due("rank of owner 7", x.rank(7, 0, 1), 0);
        check.due("rank of owner 8", x.rank(8, 0, 1), -1);
        check.due("rank of owner -1", x.rank(-1, 0, 1), -1);
        check.due("rank with owner 7", x.rank(0, 7, 1), 0);
        check.due("rank with owner 8", x.rank(0, 8, 1), -1);
        check.due("rank with owner -1", x.rank(0, -1, 1), -1);
        check.due("wish of owner 7", x.wish(7, 0, 0, 0), true);
        check.due("wish of owner 8", x.wish(8, 0, 0, 0), false);
        check.due("wish of owner -1", x.wish(-1, 0, 0, 0), false);
        Check.type(x, "when t0.f0=1:wish t0.f0=1");
        check.due("rule of owner 8", x.rule(8), -1);
        check.due("rule of owner -1", x.rule(-1), -1);
        check.due("rule of owner 7", x.rule(7), 0);
    }

    private void kinds() {
        of("KINDS 0 to 7, each with three FIELDS");
        ThingPost x = new ThingPost();
        check.due("field 0 of kind 0", x.field(0, 0, 0, 1, 0), true);
        check.due("field 2 of kind 7", x.field(7, 2, 0, 1, 0), true);
        check.due("field 3 of kind 7", x.field(7, 3, 0, 1, 0), false);
        check.due("field -1 of kind 0", x.field(0, -1, 0, 1, 0), false);
        check.due("field 0 of kind 8", x.field(8, 0, 0, 1, 0), false);
        check.due("field 0 of kind -1", x.field(-1, 0, 0, 1, 0), false);
        check.due("kind 7", x.kind(7, 1, 1), true);
        check.due("kind 8", x.kind(8, 1, 1), false);
        check.due("kind -1", x.kind(-1, 1, 1), false);
        check.due("a thing of kind 7", x.thing(7, 0), 0);
        check.due("a thing of kind 8", x.thing(8, 0), -1);
        check.due("a thing of kind -1", x.thing(-1, 0), -1);

        of("a DRIFT (0 to 500)");
        x = Check.withThings(1);
        Check.ticks(x, 20);
        check.due("500", x.kind(0, 500, 0), true);
        check.due("501", x.kind(0, 501, 0), false);
        x.word(0, 1, 10, NO, NO, NO);
        check.due("it is 500", x.words(0, 5), 5);
        check.due("0", x.kind(0, 0, 0), true);
        check.due("-1", x.kind(0, -1, 0), false);
        x.word(0, 2, 10, NO, NO, NO);
        check.due("it is 0", x.words(1, 5), 10);

        of("and a COST of asking (0 to 9999)");
        x = Check.withThings(1);
        x.field(0, 0, 0, 1, 0);
        x.question(0, 1, 0);
        check.due("9999", x.kind(0, 0, 9999), true);
        check.due("10000", x.kind(0, 0, 10000), false);
        check.due("it is 9999", x.ask(0), 9999);
        check.due("0", x.kind(0, 0, 0), true);
        check.due("-1", x.kind(0, 0, -1), false);
        check.due("it is 0", x.ask(0), 0);
    }

    private void leastAndMost() {
        of("a FIELD has a LEAST and a MOST (-100000 to 100000, LEAST not above MOST; both 0 at first)");
        ThingPost x = Check.withThings(1);
        for (int field = 0; field < 3; field++) {
            check.due("0 at first, field " + field, x.wish(0, 0, field, 0), true);
            check.due("LEAST 0 at first, field " + field, x.wish(0, 0, field, -1), false);
            check.due("MOST 0 at first, field " + field, x.wish(0, 0, field, 1), false);
        }
        check.due("-100000 to 100000", x.field(0, 0, -100000, 100000, 0), true);
        check.due("LEAST -100001", x.field(0, 0, -100001, 100000, 0), false);
        check.due("MOST 100001", x.field(0, 0, -100000, 100001, 0), false);
        check.due("a wish at the LEAST", x.wish(0, 0, 0, -100000), true);
        check.due("a wish at the MOST", x.wish(0, 0, 0, 100000), true);
        check.due("both -100000", x.field(0, 1, -100000, -100000, 0), true);
        check.due("both 100000", x.field(0, 1, 100000, 100000, 0), true);
        check.due("LEAST 5, MOST 5", x.field(0, 2, 5, 5, 0), true);
        check.due("LEAST 6, MOST 5", x.field(0, 2, 6, 5, 0), false);
        check.due("5", x.wish(0, 0, 2, 5), true);
        check.due("4", x.wish(0, 0, 2, 4), false);
        check.due("6", x.wish(0, 0, 2, 6), false);
        check.due("LEAST far too low", x.field(0, 0, Integer.MIN_VALUE, 0, 0), false);
        check.due("MOST far too high", x.field(0, 0, 0, Integer.MAX_VALUE, 0), false);
    }

    private void rate() {
        of("and a RATE (0 to 10000; 0 at first)");
        ThingPost x = Check.withThings(1);
        x.word(0, 1, 0, 50, -50, 0);
        check.due("0 at first: 50 does not come down to 0", x.guess(0, 0, 3999, 0, 0), 50);
        check.due("0 at first: -50 does not go up to 0", x.guess(0, 1, 3999, 0, 1), -50);
        check.due("10000", x.field(0, 2, -100000, 100000, 10000), true);
        check.due("10001", x.field(0, 2, -100000, 100000, 10001), false);
        check.due("it is 10000: from", x.guess(0, 2, 1, 0, 0), -10000);
        check.due("it is 10000: to", x.guess(0, 2, 1, 0, 1), 10000);
        check.due("0", x.field(0, 2, -100000, 100000, 0), true);
        check.due("-1", x.field(0, 2, -100000, 100000, -1), false);
        check.due("it is 0: from", x.guess(0, 2, 3999, 0, 0), 0);
        check.due("it is 0: to", x.guess(0, 2, 3999, 0, 1), 0);
    }

    private void toldLast() {
        of("all as told last.");
        ThingPost x = Check.withThings(1);
        x.word(0, 1, 0, 50, NO, NO);
        x.question(0, 1, 0);
        x.field(0, 0, 0, 100, 1);
        check.due("guess at 4, from", x.guess(0, 0, 4, 0, 0), 46);
        x.field(0, 0, 30, 60, 7);
        check.due("guess at 1, from", x.guess(0, 0, 1, 0, 0), 43);
        check.due("guess at 9, from", x.guess(0, 0, 9, 0, 0), 30);
        check.due("guess at 9, to", x.guess(0, 0, 9, 0, 1), 60);
        x.kind(0, 0, 3);
        x.kind(0, 0, 4);
        check.due("the later cost", x.ask(0), 0);
        x.forget(0);
        check.due("the later cost, as it is asked", x.ask(0), 4);
        x.field(0, 0, 0, 100, 1);
        check.due("as it was", x.width(0, 0), 100);
    }

    private void things() {
        of("THINGS 0 to 39, of a KIND and an OWNER.");
        ThingPost x = new ThingPost();
        check.due("nothing there yet", x.things(0, 0), -1);
        for (int i = 0; i < 40; i++) {
            check.due("thing " + i, x.thing(7 - i % 8, i % 8), i);
        }
        check.due("thing 40", x.thing(0, 0), -1);
        check.due("kind of thing 0", x.things(0, 0), 7);
        check.due("owner of thing 0", x.things(0, 1), 0);
        check.due("kind of thing 39", x.things(39, 0), 0);
        check.due("owner of thing 39", x.things(39, 1), 7);
        check.due("kind of thing 40", x.things(40, 0), -1);
        check.due("kind of thing -1", x.things(-1, 0), -1);
        check.due("things", x.count(1), 40);
        x.field(0, 2, 0, 9, 0);
        check.due("the last owner's wish for the last field of the last thing", x.wish(7, 39, 2, 9), true);
        check.due("it is wished", x.wished(39, 2, 0), 9);
        check.due("a word of the last thing", x.word(39, 200, 0, NO, NO, 5), 0);
        check.due("it is said", x.said(39, 2, 0, 0), 5);
        check.due("the rest of its counts are missed", x.missed(39, -1), 199);
        check.due("an order to the last thing", x.order(39, 1, 0), 0);
        check.due("it wakes", x.wake(39), 1);
        check.due("the last thing in a ring", x.join(39, 7), true);
        check.due("a rule of the last thing", Check.rule(x, 0, "when t39.f2=5:wish t39.f2=1"), 0);
        check.due("another one", Check.rule(x, 0, "when t39.f2=5:wish t39.f2=2"), 1);
        check.due("they pull", x.pulls(0, 1), 1);
        check.due("at the last thing's number", x.shown(0, 2), 5);
        check.due("a ring of them", x.ring(), 0);
    }

    private void words() {
        of("WORDS 0 to 399, of a THING");
        ThingPost x = Check.withThings(3);
        check.due("nothing there yet", x.words(0, 0), -1);
        for (int i = 0; i < 400; i++) {
            check.due("word " + i, x.word(i % 2, i / 2 + 1, 0, i, NO, NO), i);
        }
        check.due("word 400", x.word(2, 1, 0, 1, 1, 1), -1);
        check.due("words", x.count(2), 400);
        check.due("words of thing 2", x.things(2, 6), 0);
        check.due("thing of word 399", x.words(399, 0), 1);
        check.due("thing of word 400", x.words(400, 0), -1);
        check.due("thing of word -1", x.words(-1, 0), -1);
        check.due("said by word 399", x.said(1, 0, 0, 0), 399);

        of("with a COUNT (1 to 200)");
        x = Check.withThings(1);
        check.due("201", x.word(0, 201, 0, 1, 1, 1), -1);
        check.due("0", x.word(0, 0, 0, 1, 1, 1), -1);
        check.due("-1", x.word(0, -1, 0, 1, 1, 1), -1);
        check.due("200", x.word(0, 200, 0, 1, 1, 1), 0);
        check.due("1", x.word(0, 1, 0, 1, 1, 1), 1);

        of("and an HOUR by its clock (0 to 3999)");
        x = Check.withThings(1);
        check.due("4000", x.word(0, 1, 4000, 1, 1, 1), -1);
        check.due("-1", x.word(0, 1, -1, 1, 1, 1), -1);
        check.due("3999", x.word(0, 1, 3999, 1, 1, 1), 0);
        check.due("0", x.word(0, 2, 0, 1, 1, 1), 1);
        check.due("hour of word 0", x.words(0, 2), 3999);
    }

    private void numbersOfWords() {
        of("and for each FIELD a number (-100000 to 100000) or none (-1000000).");
        ThingPost x = Check.withThings(1);
        int[] wrong = {-100001, 100001, -999999, -1000001, 1000000, Integer.MIN_VALUE, Integer.MAX_VALUE};
        for (int number : wrong) {
            check.due(number + " in field 0", x.word(0, 1, 0, number, 0, 0), -1);
            check.due(number + " in field 1", x.word(0, 1, 0, 0, number, 0), -1);
            check.due(number + " in field 2", x.word(0, 1, 0, 0, 0, number), -1);
        }
        check.due("the least, the most, none", x.word(0, 1, 0, -100000, 100000, NO), 0);
        check.due("the least", x.said(0, 0, 0, 0), -100000);
        check.due("the most", x.said(0, 1, 0, 0), 100000);
        check.due("none", x.said(0, 2, 0, 0), NO);
        check.due("the most, none, the least", x.word(0, 2, 0, 100000, NO, -100000), 1);
        check.due("the most in field 0", x.said(0, 0, 0, 0), 100000);
        check.due("the least in field 2", x.said(0, 2, 0, 0), -100000);
        check.due("none, the least, the most", x.word(0, 3, 0, NO, -100000, 100000), 2);
        check.due("the least in field 1", x.said(0, 1, 0, 0), -100000);
        check.due("the most in field 2", x.said(0, 2, 0, 0), 100000);
        check.due("none at all", x.word(0, 4, 0, NO, NO, NO), 3);
        check.due("said as before", x.said(0, 0, 0, 0), 100000);
    }

    private void cameAndOnce() {
        of("It CAME on the TICK on which it is told.");
        ThingPost x = Check.withThings(1);
        x.word(0, 1, 9, 1, 1, 1);
        x.tick();
        x.word(0, 2, 0, 1, 1, 1);
        check.due("at 0, with hour 9", x.words(0, 3), 0);
        check.due("at 1, with hour 0", x.words(1, 3), 1);

        of("Of a THING each COUNT is taken once.");
        x = Check.withThings(2);
        check.due("the first time", x.word(0, 7, 0, 1, 1, 1), 0);
        check.due("the second time", x.word(0, 7, 0, 2, 2, 2), -2);
        check.due("of another thing", x.word(1, 7, 0, 3, 3, 3), 1);
        check.due("of another thing, the second time", x.word(1, 7, 0, 3, 3, 3), -2);
        check.due("said by the first", x.said(0, 0, 0, 0), 1);
        check.due("words", x.count(2), 2);
    }

    private void late() {
        of("LATE: a greater COUNT of its THING came before it.");
        ThingPost x = Check.withThings(2);
        x.word(0, 5, 0, 1, 1, 1);
        check.due("the first word", x.words(0, 4), 0);
        x.word(0, 4, 0, 1, 1, 1);
        check.due("one less", x.words(1, 4), 1);
        x.word(0, 6, 0, 1, 1, 1);
        check.due("one more", x.words(2, 4), 0);
        check.due("the first, as a greater one came behind it", x.words(0, 4), 0);
        x.word(1, 5, 0, 1, 1, 1);
        check.due("a greater one of another thing alone", x.words(3, 4), 0);
        x.forget(0);
        x.word(0, 3, 0, 1, 1, 1);
        check.due("the greater ones are forgotten, and came all the same", x.words(4, 4), 1);
    }

    private void missed() {
        of("MISSED: COUNTS of a THING below the greatest that came, that did not come, and were not GIVEN UP.");
        ThingPost x = Check.withThings(2);
        check.due("none came", x.missed(0, -1), 0);
        x.word(0, 1, 0, 1, 1, 1);
        check.due("1 came: none is below", x.missed(0, -1), 0);
        x.word(0, 4, 0, 1, 1, 1);
        check.due("4 came: 2 and 3", x.missed(0, -1), 2);
        check.due("the least", x.missed(0, 0), 2);
        check.due("the greatest is one below", x.missed(0, 1), 3);
        check.due("not the greatest itself", x.missed(0, 2), -1);
        check.due("of another thing", x.missed(1, -1), 0);
        x.giveUp(0, 2);
        check.due("2 is given up", x.missed(0, -1), 1);
        check.due("3 is not", x.missed(0, 0), 3);
        x.word(0, 3, 0, 1, 1, 1);
        check.due("3 came late", x.missed(0, -1), 0);
        x.word(0, 2, 0, 1, 1, 1);
        check.due("what was given up came", x.missed(0, -1), 0);
        x.word(0, 200, 0, 1, 1, 1);
        check.due("200 came: 5 to 199", x.missed(0, -1), 195);
        check.due("the last", x.missed(0, 194), 199);
    }

    private void span(ThingPost x, int word, int from, int to) {
        check.due("span of word " + word + " from", x.words(word, 5), from);
        check.due("span of word " + word + " to", x.words(word, 6), to);
    }

    /** Tells a WORD of THING 0 with a COUNT not told yet, and looks at its SPAN. */
    private void span(ThingPost x, String what, int hour, int from, int to) {
        int word = x.word(0, x.things(0, 4) + 1, hour, NO, NO, NO);
        check.due(what + ": from", x.words(word, 5), from);
        check.due(what + ": to", x.words(word, 6), to);
    }

    private void clocks() {
        of("A clock is SET (it was right at a TICK, not behind NOW; TICK 0 always).");
        ThingPost x = Check.withThings(1);
        x.kind(0, 100, 0);
        check.due("at 0", x.set(0, 0), true);
        check.due("at 1, behind NOW", x.set(0, 1), false);
        Check.ticks(x, 60);
        span(x, "right at 0 though nobody set it at 40", 40, 36, 44);
        check.due("at 60, which is NOW", x.set(0, 60), true);
        check.due("at 61, behind NOW", x.set(0, 61), false);
        check.due("at -1", x.set(0, -1), false);
        span(x, "still right at 0", 40, 36, 44);
        check.due("at 30", x.set(0, 30), true);
        span(x, "right at 30", 40, 39, 41);
        span(x, "and right at 0 for hours ahead of that", 20, 18, 22);
    }

    private void errors() {
        of("E is HOUR less SET, times DRIFT by 1000, upwards");
        ThingPost x = Check.withThings(1);
        Check.ticks(x, 400);
        span(x, "drift 0", 300, 300, 300);
        x.kind(0, 25, 0);
        span(x, "40 * 25 / 1000 = 1", 40, 39, 41);
        span(x, "41 * 25 / 1000 is above 1", 41, 39, 43);
        span(x, "39 * 25 / 1000 is below 1", 39, 38, 40);
        span(x, "hour 0", 0, 0, 0);
        x.kind(0, 1, 0);
        span(x, "1 / 1000 is above 0", 1, 0, 2);
        x.kind(0, 500, 0);
        span(x, "200 * 500 / 1000 = 100", 200, 100, 300);
        span(x, "199 * 500 / 1000 is above 99", 199, 99, 299);
        x.kind(0, 499, 0);
        span(x, "3999 * 499 / 1000 is above 1995", 3999, 400, 400);
        x.kind(0, 334, 0);
        span(x, "3 * 334 / 1000 is above 1", 3, 1, 5);
        x.kind(0, 333, 0);
        span(x, "3 * 333 / 1000 is below 1", 3, 2, 4);
    }

    private void setsOfSpans() {
        of("with the latest SET of its THING not behind the HOUR;");
        ThingPost x = Check.withThings(2);
        x.kind(0, 500, 0);
        Check.ticks(x, 100);
        x.set(0, 20);
        x.set(0, 30);
        x.set(0, 10);
        x.set(1, 15);
        x.set(1, 29);
        span(x, "set at the hour", 30, 30, 30);
        span(x, "one hour behind it", 31, 30, 32);
        span(x, "one hour ahead of it: set at 20", 29, 24, 34);
        span(x, "set at 20", 20, 20, 20);
        span(x, "ahead of 20: set at 10", 19, 14, 24);
        span(x, "set at 10", 10, 10, 10);
        span(x, "ahead of 10: set at 0", 9, 4, 14);

        of("from HOUR - E (that SET at least) to HOUR + E");
        x = Check.withThings(1);
        Check.ticks(x, 100);
        x.set(0, 10);
        x.kind(0, 500, 0);
        span(x, "not below the set", 11, 10, 12);
        span(x, "above it", 12, 11, 13);
        span(x, "above it by half", 20, 15, 25);
    }

    private void spansAndNow() {
        of("each not behind the TICK on which it CAME");
        ThingPost x = Check.withThings(1);
        x.kind(0, 500, 0);
        span(x, "came on 0", 3999, 0, 0);
        Check.ticks(x, 30);
        span(x, "to 29", 19, 9, 29);
        span(x, "to 30", 20, 10, 30);
        span(x, "to 32, but 30", 21, 10, 30);
        span(x, "hour 30", 30, 15, 30);
        span(x, "hour behind it", 58, 29, 30);
        span(x, "from 30", 60, 30, 30);
        span(x, "from 31, but 30", 62, 30, 30);
    }

    private void spansStay() {
        of("(all as things were told when it CAME).");
        ThingPost x = Check.withThings(1);
        x.kind(0, 500, 0);
        Check.ticks(x, 30);
        x.word(0, 1, 20, NO, NO, NO);
        x.kind(0, 0, 0);
        x.set(0, 20);
        x.tick();
        span(x, 0, 10, 30);
        x.kind(0, 500, 0);
        x.word(0, 2, 21, NO, NO, NO);
        span(x, 1, 20, 22);
        x.set(0, 21);
        span(x, 1, 20, 22);
    }

    private void saidAsKnown() {
        of("SAID of a FIELD at a TICK t as KNOWN on a TICK k: the number of the WORD with the greatest COUNT");
        ThingPost x = Check.withThings(2);
        check.due("nothing there yet", x.said(0, 0, 0, 0), NO);
        x.word(0, 2, 0, 20, NO, NO);
        x.word(0, 3, 0, 30, NO, NO);
        x.word(0, 1, 0, 10, NO, NO);
        x.word(1, 9, 0, 90, NO, NO);
        check.due("not of the latest told", x.said(0, 0, 0, 0), 30);
        check.due("of each thing its own", x.said(1, 0, 0, 0), 90);
        x.word(0, 9, 0, NO, 91, NO);
        x.word(0, 7, 0, 70, 71, NO);
        x.word(0, 6, 0, 60, 61, 62);
        x.word(0, 8, 0, NO, 81, NO);
        x.word(0, 5, 0, 50, 51, 52);
        check.due("of 7, as 8 and 9 have none", x.said(0, 0, 0, 0), 70);
        check.due("of 9", x.said(0, 1, 0, 0), 91);
        check.due("of 6", x.said(0, 2, 0, 0), 62);

        of("of those that CAME by k");
        x = Check.withThings(1);
        Check.ticks(x, 3);
        x.word(0, 1, 0, 10, NO, NO);
        x.tick();
        x.word(0, 2, 0, 20, NO, NO);
        check.due("known on 2", x.said(0, 0, 0, 2), NO);
        check.due("known on 3", x.said(0, 0, 0, 3), 10);
        check.due("known on 4", x.said(0, 0, 0, 4), 20);
        check.due("known on a tick behind NOW", x.said(0, 0, 0, 3999), 20);
    }

    private void saidAmongWords() {
        of("have a number there");
        ThingPost x = Check.withThings(1);
        x.word(0, 1, 0, 10, NO, 0);
        x.word(0, 2, 0, NO, NO, -1);
        check.due("of the lesser count that has one", x.said(0, 0, 0, 0), 10);
        check.due("none has one", x.said(0, 1, 0, 0), NO);
        check.due("the greatest has one", x.said(0, 2, 0, 0), -1);

        of("were not FORGOTTEN (whenever)");
        x = Check.withThings(1);
        x.word(0, 9, 0, 10, NO, NO);
        Check.ticks(x, 5);
        x.forget(0);
        check.due("as known now", x.said(0, 0, 5, 5), NO);
        check.due("as known ahead of that", x.said(0, 0, 0, 0), NO);
        x.word(0, 2, 0, 20, NO, NO);
        check.due("a later told one, of a lesser count", x.said(0, 0, 5, 5), 20);

        of("and whose SPAN begins by t.");
        x = Check.withThings(1);
        x.kind(0, 500, 0);
        Check.ticks(x, 30);
        x.word(0, 1, 10, 10, NO, NO);
        x.word(0, 2, 20, 20, NO, NO);
        check.due("at 4, one ahead", x.said(0, 0, 4, 30), NO);
        check.due("at 5", x.said(0, 0, 5, 30), 10);
        check.due("at 9", x.said(0, 0, 9, 30), 10);
        check.due("at 10", x.said(0, 0, 10, 30), 20);
    }

    private void guess(ThingPost x, int at, int from, int to) {
        check.due("at " + at + " from", x.guess(0, 0, at, 3999, 0), from);
        check.due("at " + at + " to", x.guess(0, 0, at, 3999, 1), to);
    }

    private void guessDown() {
        of("GUESS at t as KNOWN on k: from that number less RATE times (t less its SPAN's begin), but not below the"
            + " lesser of LEAST and the number");
        ThingPost x = Check.withThings(1);
        x.field(0, 0, 40, 1000, 2);
        Check.ticks(x, 10);
        x.word(0, 1, 10, 50, NO, NO);
        check.due("one tick ahead of its begin", x.guess(0, 0, 9, 10, 0), NO);
        check.due("known one tick ahead", x.guess(0, 0, 10, 9, 0), NO);
        guess(x, 10, 50, 50);
        guess(x, 11, 48, 52);
        guess(x, 14, 42, 58);
        guess(x, 15, 40, 60);
        guess(x, 16, 40, 62);
        guess(x, 3999, 40, 1000);
        x.field(0, 0, 50, 1000, 2);
        guess(x, 15, 50, 60);
        x.field(0, 0, 51, 1000, 2);
        guess(x, 15, 50, 60);
        x.field(0, 0, 49, 1000, 2);
        guess(x, 15, 49, 60);
        x.field(0, 0, -100000, 100000, 10000);
        guess(x, 3999, -100000, 100000);
    }

    private void guessUp() {
        of("to the number and as much, but not above the greater of MOST and the number.");
        ThingPost x = Check.withThings(1);
        x.field(0, 0, -1000, 60, 2);
        Check.ticks(x, 10);
        x.word(0, 1, 10, 50, NO, NO);
        guess(x, 14, 42, 58);
        guess(x, 15, 40, 60);
        guess(x, 16, 38, 60);
        x.field(0, 0, -1000, 50, 2);
        guess(x, 15, 40, 50);
        x.field(0, 0, -1000, 49, 2);
        guess(x, 15, 40, 50);
        x.field(0, 0, -1000, 51, 2);
        guess(x, 15, 40, 51);
        x.kind(0, 500, 0);
        x.field(0, 0, -1000, 1000, 2);
        x.word(0, 2, 10, 0, NO, NO);
        guess(x, 5, 0, 0);
        guess(x, 10, -10, 10);
    }

    private void outsideEdges() {
        of("OUTSIDE: a WORD's number that is not in the GUESS, at its SPAN's end,");
        ThingPost x = Check.withThings(1);
        x.field(0, 0, -1000, 1000, 2);
        x.field(0, 1, -1000, 1000, 2);
        x.field(0, 2, -1000, 1000, 0);
        Check.ticks(x, 30);
        x.word(0, 1, 10, 50, 50, 50);
        check.due("without one by which it could be", x.words(0, 7), 0);
        x.word(0, 2, 15, 40, 60, 50);
        check.due("at both ends of the guess", x.words(1, 7), 0);
        x.word(0, 3, 20, 29, 71, 51);
        check.due("one beyond", x.words(2, 7), 7);
        x.word(0, 4, 20, 29, 70, 51);
        check.due("on the same tick: one field is another", x.words(3, 7), 2);
        x.word(0, 5, 20, NO, NO, NO);
        check.due("no number is not outside", x.words(4, 7), 0);
        x.kind(0, 500, 0);
        x.set(0, 16);
        x.word(0, 6, 24, 45, 54, 51);
        // Its SPAN is 20 to 28: at 20 it would be outside, at 28 it is not.
        check.due("at the end of its span", x.words(5, 7), 0);
        x.word(0, 7, 24, 28, 71, 51);
        check.due("at the end, by one that begins with it: one beyond", x.words(6, 7), 3);
        x.word(0, 8, 24, 44, 55, 51);
        check.due("at the end, by one that begins with it: in it", x.words(7, 7), 0);
    }

    private void outsideByWhom() {
        of("by the WORD of its THING with the next lesser COUNT that has one there (not FORGOTTEN; if its SPAN begins by"
            + " then, else by none;");
        ThingPost x = Check.withThings(2);
        Check.ticks(x, 30);
        x.word(1, 1, 5, 99, 99, 99);
        x.word(0, 1, 10, 10, 10, 10);
        check.due("not by another thing's", x.words(1, 7), 0);
        x.word(0, 5, 10, NO, 50, NO);
        x.word(0, 9, 10, 10, 50, 11);
        check.due("one that has none there is passed over", x.words(3, 7), 4);
        x.word(0, 7, 10, 10, 10, 10);
        check.due("the next lesser, not the greater", x.words(4, 7), 2);
        x.forget(0);
        x.word(0, 10, 10, 77, 77, 77);
        check.due("all are forgotten", x.words(5, 7), 0);
        x.word(0, 3, 10, 30, 30, 30);
        x.word(0, 8, 10, 30, 31, 30);
        check.due("forgotten ones are passed over", x.words(7, 7), 2);
        x.word(0, 20, 20, 1, 1, 1);
        x.word(0, 21, 20, 2, 1, 1);
        check.due("it begins by then", x.words(9, 7), 1);
        x.word(0, 22, 19, 5, 6, 7);
        check.due("it begins behind then: by none, nor by one before it", x.words(10, 7), 0);
    }

    private void outsideStays() {
        of("as all is when the later told one CAME: of that one alone).");
        ThingPost x = Check.withThings(1);
        x.field(0, 0, -1000, 1000, 1);
        Check.ticks(x, 30);
        x.word(0, 1, 10, 50, NO, NO);
        x.word(0, 9, 20, 61, NO, NO);
        check.due("outside", x.words(1, 7), 1);
        x.word(0, 5, 15, 56, NO, NO);
        check.due("a late one between is outside by the lesser", x.words(2, 7), 1);
        check.due("the greater one as it was", x.words(1, 7), 1);
        x.word(0, 7, 15, 56, NO, NO);
        check.due("a late one that is inside", x.words(3, 7), 0);
        x.field(0, 0, -1000, 1000, 9);
        check.due("a greater rate told then", x.words(1, 7), 1);
        x.word(0, 8, 16, 65, NO, NO);
        check.due("by the rate of now: inside", x.words(4, 7), 0);
        x.field(0, 0, -1000, 1000, 0);
        check.due("a lesser rate told then", x.words(4, 7), 0);
        x.forget(0);
        check.due("forgotten then", x.words(2, 7), 1);
        ThingPost y = Check.withThings(1);
        y.word(0, 9, 0, 50, NO, NO);
        y.word(0, 5, 0, 51, NO, NO);
        check.due("told ahead of its lesser one", y.words(0, 7), 0);
        check.due("the lesser one, without one yet lesser", y.words(1, 7), 0);
    }
}
