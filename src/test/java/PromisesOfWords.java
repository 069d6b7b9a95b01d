import java.util.function.Consumer;

/** The edges that promises 1 to 13 name. */
final class PromisesOfWords {
    private static final int NO = Check.NOTHING;
    private static final int[] WILD = {Integer.MIN_VALUE, -1000000, -2, 1000000, Integer.MAX_VALUE};
    private final Check check;

    PromisesOfWords(Check check) {
        this.check = check;
    }

    void run() {
        newObject();
        field();
        kind();
        thing();
        tick();
        word();
        words();
        set();
        missed();
        giveUp();
        forget();
        said();
        guess();
    }

    private void unchanged(String call, Consumer<ThingPost> hear) {
        Twins.unchanged(check, Twins::rich, call, hear);
    }

    private void newObject() {
        check.of("Promise 1", "`ThingPost()`: TICK 0; no THINGS, no RULES.");
        ThingPost x = new ThingPost();
        for (int what = 0; what < 8; what++) {
            check.due("count(" + what + ")", x.count(what), 0);
        }
        check.due("thing 0", x.things(0, 0), -1);
        check.due("rule 0", x.held(0, 0, 0), -1);
        check.due("rule 0 is not in force", x.force(0, false), false);
        check.due("word 0", x.words(0, 0), -1);
        check.due("act 0", x.acts(0, 0), -2);
        check.due("order 0", x.orders(0, 0), -1);
        check.due("shown", x.shown(0, 0), NO);
        check.due("asked", x.asked(), -1);
        ThingPost other = Check.withThings(3);
        check.due("another one's things are none of it", x.count(1) + other.count(1), 3);
    }

    private void field() {
        check.of("Promise 2", "A FIELD of a KIND: true; false, and nothing happens, if something is not as told.");
        check.due("the least of all", new ThingPost().field(0, 0, -100000, -100000, 0), true);
        check.due("the most of all", new ThingPost().field(7, 2, 100000, 100000, 10000), true);
        int[][] wrong = {{-1, 0, 0, 9, 1}, {8, 0, 0, 9, 1}, {0, -1, 0, 9, 1}, {0, 3, 0, 9, 1}, {0, 0, -100001, 9, 1},
            {0, 0, 0, 100001, 1}, {0, 0, 6, 5, 1}, {0, 0, 0, 9, -1}, {0, 0, 0, 9, 10001}, {1, 0, 100001, 100001, 1},
            {1, 0, -100001, -100001, 1}};
        for (int[] n : wrong) {
            String call = "field(" + n[0] + ", " + n[1] + ", " + n[2] + ", " + n[3] + ", " + n[4] + ")";
            check.due(call, Twins.rich().field(n[0], n[1], n[2], n[3], n[4]), false);
            unchanged(call, x -> x.field(n[0], n[1], n[2], n[3], n[4]));
        }
        for (int wild : WILD) {
            unchanged("field of kind " + wild, x -> x.field(wild, 0, 0, 9, 1));
            unchanged("field " + wild, x -> x.field(0, wild, 0, 9, 1));
            unchanged("field, rate " + wild, x -> x.field(0, 0, 0, 9, wild));
            unchanged("field, least and most " + wild, x -> x.field(0, 0, wild == -2 ? 6 : wild, wild == -2 ? 5 : wild, 1));
        }
    }

    private void kind() {
        check.of("Promise 3", "DRIFT and COST of a KIND (both 0 at first): true; false, and nothing happens, for others.");
        ThingPost x = Check.withThings(1);
        x.field(0, 0, 0, 1, 0);
        x.question(0, 1, 0);
        check.due("cost 0 at first", x.ask(0), 0);
        check.due("it is asked", x.asked(), 1);
        Check.ticks(x, 9);
        x.word(0, 1, 9, NO, NO, NO);
        check.due("drift 0 at first", x.words(0, 5), 9);
        check.due("the least of all", x.kind(0, 0, 0), true);
        check.due("the most of all", x.kind(7, 500, 9999), true);
        int[][] wrong = {{-1, 1, 1}, {8, 1, 1}, {0, -1, 1}, {0, 501, 1}, {0, 1, -1}, {0, 1, 10000}, {1, 501, 9999},
            {1, 500, 10000}};
        for (int[] n : wrong) {
            String call = "kind(" + n[0] + ", " + n[1] + ", " + n[2] + ")";
            check.due(call, Twins.rich().kind(n[0], n[1], n[2]), false);
            unchanged(call, y -> y.kind(n[0], n[1], n[2]));
        }
        for (int wild : WILD) {
            unchanged("kind " + wild, y -> y.kind(wild, 1, 1));
            unchanged("kind, drift " + wild, y -> y.kind(0, wild, 1));
            unchanged("kind, cost " + wild, y -> y.kind(0, 1, wild));
        }
    }

    private void thing() {
        check.of("Promise 4", "A THING: its number; NONE: there are 40, or something is not as told.");
        ThingPost x = new ThingPost();
        check.due("kind -1", x.thing(-1, 0), -1);
        check.due("kind 8", x.thing(8, 0), -1);
        check.due("owner -1", x.thing(0, -1), -1);
        check.due("owner 8", x.thing(0, 8), -1);
        check.due("the first", x.thing(0, 0), 0);
        for (int i = 1; i < 39; i++) {
            x.thing(0, 0);
        }
        check.due("the 40th", x.thing(7, 7), 39);
        check.due("a 41st", x.thing(7, 7), -1);
        check.due("a 41st, not as told", x.thing(8, 7), -1);
        check.due("things", x.count(1), 40);
        for (int wild : WILD) {
            unchanged("a thing of kind " + wild, y -> y.thing(wild, 0));
            unchanged("a thing of owner " + wild, y -> y.thing(0, wild));
        }
    }

    private void tick() {
        check.of("Promise 5", "The next TICK comes: how many RULES ACTED (also those beyond 300);");
        ThingPost x = Check.withThings(1);
        check.due("no rules", x.tick(), 0);
        check.due("NOW", x.count(0), 1);
        for (int i = 0; i < 20; i++) {
            Check.rule(x, 0, "when age t0=1:wish t0.f0=1");
        }
        for (int round = 1; round <= 17; round++) {
            x.word(0, round, 0, 1, 1, 1);
            check.due("all act in round " + round, x.tick(), 20);
            check.due("none acts behind round " + round, x.tick(), 0);
            check.due("acts in round " + round, x.count(4), Math.min(300, 20 * round));
        }

        check.of("Promise 5", "NONE, and nothing happens, at 3999.");
        ThingPost y = Check.withThings(1);
        Check.rule(y, 0, "when age t0=0 or age t0=1 or t0.f0=7:wish t0.f0=1");
        Check.ticks(y, 3998);
        check.due("from 3998 to 3999", y.tick(), 0);
        y.word(0, 1, 3999, 7, NO, NO);
        y.order(0, 1, 3999);
        check.due("at 3999", y.tick(), -1);
        check.due("NOW", y.count(0), 3999);
        check.due("no rule acted", y.count(4), 0);
        check.due("the order is not over", y.orders(0, 3), 0);
        check.due("at 3999, again", y.tick(), -1);
    }

    private void word() {
        check.of("Promise 6", "A WORD: its number; NONE: there are 400, or something is not as told; else -2: that COUNT"
            + " came.");
        ThingPost x = Check.withThings(3);
        int[][] wrong = {{3, 1, 0}, {-1, 1, 0}, {0, 0, 0}, {0, 201, 0}, {0, 1, -1}, {0, 1, 4000}};
        for (int[] n : wrong) {
            check.due("word(" + n[0] + ", " + n[1] + ", " + n[2] + ")", x.word(n[0], n[1], n[2], 1, 1, 1), -1);
        }
        check.due("the first", x.word(0, 200, 3999, 1, 1, 1), 0);
        check.due("that count came", x.word(0, 200, 0, 1, 1, 1), -2);
        check.due("that count came, but a number is not as told", x.word(0, 200, 0, 1, 1, 100001), -1);
        check.due("that count came, but the hour is not as told", x.word(0, 200, 4000, 1, 1, 1), -1);
        check.due("the second", x.word(0, 1, 0, 1, 1, 1), 1);
        for (int i = 2; i < 399; i++) {
            x.word(i < 200 ? 0 : 1, i < 200 ? i : i - 199, 0, 1, 1, 1);
        }
        check.due("the 400th", x.word(2, 1, 0, 1, 1, 1), 399);
        check.due("a 401st", x.word(2, 2, 0, 1, 1, 1), -1);
        check.due("a 401st, of a count that came", x.word(2, 1, 0, 1, 1, 1), -1);
        check.due("words", x.count(2), 400);
        for (int wild : WILD) {
            unchanged("a word of thing " + wild, y -> y.word(wild, 2, 1, 1, 1, 1));
            unchanged("a word, count " + wild, y -> y.word(0, wild, 1, 1, 1, 1));
            unchanged("a word, hour " + wild, y -> y.word(0, 2, wild, 1, 1, 1));
            if (wild != NO && wild != -2) {
                unchanged("a word, number " + wild, y -> y.word(0, 2, 1, 1, wild, 1));
            }
        }

        check.of("Promise 6", "Its THING wakes.");
        x = Check.withThings(2);
        x.order(0, 1, 0);
        x.order(1, 1, 0);
        x.word(0, 1, 0, 1, 1, 1);
        check.due("its order is sent", x.orders(0, 3), 1);
        check.due("another thing's is not", x.orders(1, 3), 0);
        check.due("how often", x.orders(0, 4), 1);
    }

    private void words() {
        check.of("Promise 7", "Of a WORD what 0: THING, 1: COUNT, 2: HOUR, 3: the TICK on which it CAME, 4: 1 if LATE, else"
            + " 0, 5, 6: SPAN from, to, 7: FIELDS (bits) that are OUTSIDE, 8: 1 if FORGOTTEN, else 0.");
        ThingPost x = Check.withThings(2);
        x.kind(0, 500, 0);
        Check.ticks(x, 20);
        x.word(1, 5, 10, 1, 2, 3);
        x.word(1, 7, 10, 1, 2, 4);
        x.word(1, 6, 12, 9, 9, 9);
        x.forget(1);
        x.word(0, 200, 3999, 1, 2, 3);
        int[][] due = {{1, 5, 10, 20, 0, 5, 15, 0, 1}, {1, 7, 10, 20, 0, 5, 15, 4, 1}, {1, 6, 12, 20, 1, 6, 18, 7, 1},
            {0, 200, 3999, 20, 0, 20, 20, 0, 0}};
        for (int k = 0; k < 4; k++) {
            for (int what = 0; what < 9; what++) {
                check.due("words(" + k + ", " + what + ")", x.words(k, what), due[k][what]);
            }
        }

        check.of("Promise 7", "NONE without it, or for another what.");
        check.due("what 9", x.words(0, 9), -1);
        check.due("what -1", x.words(0, -1), -1);
        check.due("word 4", x.words(4, 0), -1);
        check.due("word -1", x.words(-1, 0), -1);
        for (int wild : WILD) {
            check.due("what " + wild, x.words(0, wild), -1);
            check.due("word " + wild, x.words(wild, 0), -1);
        }
        check.due("of a new object", new ThingPost().words(0, 0), -1);
    }

    private void set() {
        check.of("Promise 8", "A clock is SET at a TICK: true; false, and nothing happens, if something is not as told.");
        ThingPost x = Twins.rich();
        check.due("at 0", x.set(0, 0), true);
        check.due("at NOW", x.set(3, 4), true);
        int[][] wrong = {{0, 5}, {0, -1}, {4, 0}, {-1, 0}, {0, 4000}};
        for (int[] n : wrong) {
            check.due("set(" + n[0] + ", " + n[1] + ")", Twins.rich().set(n[0], n[1]), false);
            unchanged("set(" + n[0] + ", " + n[1] + ")", y -> y.set(n[0], n[1]));
        }
        for (int wild : WILD) {
            unchanged("set of thing " + wild, y -> y.set(wild, 0));
            unchanged("set at " + wild, y -> y.set(0, wild));
        }
        check.due("no things", new ThingPost().set(0, 0), false);
    }

    private void missed() {
        check.of("Promise 9", "MISSED of a THING: how many (k NONE), or the k-th, rising; NONE without these.");
        ThingPost x = Check.withThings(2);
        check.due("how many, when none came", x.missed(0, -1), 0);
        check.due("the first, when none came", x.missed(0, 0), -1);
        x.word(0, 7, 0, 1, 1, 1);
        x.word(0, 2, 0, 1, 1, 1);
        x.giveUp(0, 4);
        check.due("how many", x.missed(0, -1), 4);
        int[] due = {1, 3, 5, 6, -1, -1};
        for (int k = 0; k < due.length; k++) {
            check.due("missed(0, " + k + ")", x.missed(0, k), due[k]);
        }
        check.due("missed(0, -2)", x.missed(0, -2), -1);
        check.due("of another thing", x.missed(1, -1), 0);
        check.due("of thing 2", x.missed(2, -1), -1);
        check.due("of thing -1", x.missed(-1, -1), -1);
        check.due("of thing -1, the first", x.missed(-1, 0), -1);
        for (int wild : WILD) {
            check.due("missed(0, " + wild + ")", x.missed(0, wild), -1);
            check.due("missed(" + wild + ", -1)", x.missed(wild, -1), -1);
        }
        x.word(1, 200, 0, 1, 1, 1);
        check.due("199 are missed", x.missed(1, -1), 199);
        check.due("the last of them", x.missed(1, 198), 199);
        check.due("one behind it", x.missed(1, 199), -1);
    }

    private void giveUp() {
        check.of("Promise 10", "A MISSED COUNT is GIVEN UP: true; false: it is not MISSED.");
        ThingPost x = Check.withThings(2);
        check.due("when none came", x.giveUp(0, 1), false);
        x.word(0, 4, 0, 1, 1, 1);
        check.due("the greatest that came", x.giveUp(0, 4), false);
        check.due("above it", x.giveUp(0, 5), false);
        check.due("count 0", x.giveUp(0, 0), false);
        check.due("count -1", x.giveUp(0, -1), false);
        check.due("of a thing that said nothing", x.giveUp(1, 1), false);
        check.due("of thing 2", x.giveUp(2, 1), false);
        check.due("of thing -1", x.giveUp(-1, 1), false);
        check.due("the last missed", x.giveUp(0, 3), true);
        check.due("again", x.giveUp(0, 3), false);
        check.due("the first missed", x.giveUp(0, 1), true);
        check.due("still missed", x.missed(0, 0), 2);
        check.due("none more", x.missed(0, -1), 1);
        for (int wild : WILD) {
            unchanged("giving up " + wild, y -> y.giveUp(0, wild));
            unchanged("giving up of thing " + wild, y -> y.giveUp(wild, 3));
        }
        unchanged("giving up what came", y -> y.giveUp(0, 1));
        unchanged("giving up again", y -> y.giveUp(0, 2));

        check.of("Promise 10", "(Should it come yet, it is taken.)");
        check.due("it is taken", x.word(0, 3, 0, 5, 5, 5), 1);
        check.due("it is late", x.words(1, 4), 1);
        check.due("once", x.word(0, 3, 0, 5, 5, 5), -2);
        check.due("it is not missed", x.giveUp(0, 3), false);
        check.due("words of the thing", x.things(0, 6), 2);
    }

    private void forget() {
        check.of("Promise 11", "All WORDS of a THING so far are FORGOTTEN: how many were not yet; NONE without it.");
        ThingPost x = Check.withThings(2);
        check.due("nothing was said yet", x.forget(0), 0);
        x.word(0, 3, 0, 1, 1, 1);
        x.word(1, 1, 0, 2, 2, 2);
        x.word(0, 4, 0, NO, NO, NO);
        check.due("two", x.forget(0), 2);
        check.due("none is left", x.forget(0), 0);
        x.word(0, 1, 0, 3, 3, 3);
        check.due("a later told one is not", x.words(3, 8), 0);
        check.due("it is said", x.said(0, 0, 0, 0), 3);
        check.due("another thing's is not", x.words(1, 8), 0);
        check.due("one more", x.forget(0), 1);
        check.due("thing 2", x.forget(2), -1);
        check.due("thing -1", x.forget(-1), -1);
        for (int wild : WILD) {
            check.due("thing " + wild, x.forget(wild), -1);
        }

        check.of("Promise 11", "(Their COUNTS came, all the same.)");
        check.due("count 3", x.word(0, 3, 0, 1, 1, 1), -2);
        check.due("the greatest", x.things(0, 4), 4);
        check.due("one is missed", x.missed(0, -1), 1);
        check.due("count 2", x.missed(0, 0), 2);
        check.due("words", x.things(0, 6), 3);
        check.due("count 2 is late", x.words(x.word(0, 2, 0, 1, 1, 1), 4), 1);
    }

    private void said() {
        check.of("Promise 12", "SAID of a FIELD at a TICK as KNOWN on a TICK; -1000000: nothing, or without these.");
        ThingPost x = Check.withThings(1);
        check.due("nothing", x.said(0, 0, 0, 0), NO);
        x.word(0, 1, 0, 0, -100000, NO);
        check.due("0", x.said(0, 0, 0, 0), 0);
        check.due("the least", x.said(0, 1, 3999, 3999), -100000);
        check.due("no number", x.said(0, 2, 3999, 3999), NO);
        int[][] wrong = {{1, 0, 0, 0}, {-1, 0, 0, 0}, {0, 3, 0, 0}, {0, -1, 0, 0}, {0, 0, -1, 0}, {0, 0, 4000, 0},
            {0, 0, 0, -1}, {0, 0, 0, 4000}};
        for (int[] n : wrong) {
            check.due("said(" + n[0] + ", " + n[1] + ", " + n[2] + ", " + n[3] + ")", x.said(n[0], n[1], n[2], n[3]), NO);
        }
        for (int wild : WILD) {
            check.due("thing " + wild, x.said(wild, 0, 0, 0), NO);
            check.due("field " + wild, x.said(0, wild, 0, 0), NO);
            check.due("at " + wild, x.said(0, 0, wild, 0), NO);
            check.due("known on " + wild, x.said(0, 0, 0, wild), NO);
        }
    }

    private void guess() {
        check.of("Promise 13", "GUESS likewise: part 0 from, 1 to, 2 the WORD by which it is (NONE).");
        ThingPost x = Check.withThings(2);
        x.field(0, 0, -9, 9, 1);
        check.due("without a word, from", x.guess(0, 0, 0, 0, 0), NO);
        check.due("without a word, to", x.guess(0, 0, 0, 0, 1), NO);
        check.due("without a word, the word", x.guess(0, 0, 0, 0, 2), -1);
        x.word(1, 1, 0, 5, 5, 5);
        x.word(0, 7, 0, 5, NO, NO);
        x.word(0, 3, 0, 6, 6, NO);
        check.due("from", x.guess(0, 0, 3, 0, 0), 2);
        check.due("to", x.guess(0, 0, 3, 0, 1), 8);
        check.due("the word", x.guess(0, 0, 3, 0, 2), 1);
        check.due("the word of field 1", x.guess(0, 1, 3, 0, 2), 2);
        check.due("the word of field 2", x.guess(0, 2, 3, 0, 2), -1);

        check.of("Promise 13", "-1000000 (part 2: NONE) without one, or without these.");
        int[][] wrong = {{2, 0, 0, 0}, {-1, 0, 0, 0}, {0, 3, 0, 0}, {0, -1, 0, 0}, {0, 0, -1, 0}, {0, 0, 4000, 0},
            {0, 0, 0, -1}, {0, 0, 0, 4000}, {0, 2, 0, 0}};
        for (int[] n : wrong) {
            for (int part = -1; part < 4; part++) {
                check.due("guess(" + n[0] + ", " + n[1] + ", " + n[2] + ", " + n[3] + ", " + part + ")",
                    x.guess(n[0], n[1], n[2], n[3], part), part == 2 ? -1 : NO);
            }
        }
        check.due("part 3", x.guess(0, 0, 0, 0, 3), NO);
        check.due("part -1", x.guess(0, 0, 0, 0, -1), NO);
        for (int wild : WILD) {
            check.due("thing " + wild, x.guess(wild, 0, 0, 0, 2), -1);
            check.due("field " + wild, x.guess(0, wild, 0, 0, 1), NO);
            check.due("at " + wild, x.guess(0, 0, wild, 0, 0), NO);
            check.due("known on " + wild, x.guess(0, 0, 0, wild, 2), -1);
            check.due("part " + wild, x.guess(0, 0, 0, 0, wild), NO);
        }
    }
}
