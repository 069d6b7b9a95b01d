/** Promises 1 to 13: kinds, things, ticks, words, clocks, missed counts, SAID and GUESS. */
public final class WordsTest {
    private static final int NO = Check.NOTHING;
    private static final Check check = new Check();

    public static void main(String[] args) {
        newObject();
        fieldsAndKinds();
        thingsAreTaken();
        ticksEnd();
        wrongWords();
        wordsAreLate();
        spans();
        wordsKnowNoFuture();
        outside();
        outsideOfTheLaterToldAlone();
        missedCounts();
        forgotten();
        said();
        guess();
        mostWords();
        check.end();
    }

    private static void newObject() {
        ThingPost x = new ThingPost();
        for (int what = 0; what <= 7; what++) {
            check.due("new count(" + what + ")", x.count(what), 0);
        }
        check.due("count(8)", x.count(8), -1);
        check.due("count(-1)", x.count(-1), -1);
        check.due("NONE", ThingPost.NONE, -1);
        check.due("things(0, 0) of none", x.things(0, 0), -1);
        check.due("held(0) of none", x.held(0, 0, 0), -1);
    }

    private static void fieldsAndKinds() {
        ThingPost x = new ThingPost();
        check.due("field ordinary", x.field(0, 0, -100000, 100000, 10000), true);
        check.due("field one number", x.field(7, 2, 5, 5, 0), true);
        check.due("field kind 8", x.field(8, 0, 0, 1, 0), false);
        check.due("field kind -1", x.field(-1, 0, 0, 1, 0), false);
        check.due("field 3", x.field(0, 3, 0, 1, 0), false);
        check.due("field -1", x.field(0, -1, 0, 1, 0), false);
        check.due("field least above most", x.field(0, 0, 2, 1, 0), false);
        check.due("field least too low", x.field(0, 0, -100001, 1, 0), false);
        check.due("field most too high", x.field(0, 0, 0, 100001, 0), false);
        check.due("field rate 10001", x.field(0, 0, 0, 1, 10001), false);
        check.due("field rate -1", x.field(0, 0, 0, 1, -1), false);
        check.due("field extremes", x.field(0, 0, Integer.MIN_VALUE, Integer.MAX_VALUE, 0), false);
        check.due("kind ordinary", x.kind(0, 500, 9999), true);
        check.due("kind zeros", x.kind(7, 0, 0), true);
        check.due("kind 8", x.kind(8, 0, 0), false);
        check.due("kind -1", x.kind(-1, 0, 0), false);
        check.due("kind drift 501", x.kind(0, 501, 0), false);
        check.due("kind drift -1", x.kind(0, -1, 0), false);
        check.due("kind cost 10000", x.kind(0, 0, 10000), false);
        check.due("kind cost -1", x.kind(0, 0, -1), false);
        x.thing(0, 0);
        check.due("refused field changes nothing: -100000", x.wish(0, 0, 0, -100000), true);
        check.due("refused field changes nothing: 100000", x.wish(0, 0, 0, 100000), true);
        check.due("a field not told has 0 alone", x.wish(0, 0, 1, 1), false);
        check.due("a field not told has 0", x.wish(0, 0, 1, 0), true);
    }

    private static void thingsAreTaken() {
        ThingPost x = new ThingPost();
        check.due("thing kind 8", x.thing(8, 0), -1);
        check.due("thing kind -1", x.thing(-1, 0), -1);
        check.due("thing owner 8", x.thing(0, 8), -1);
        check.due("thing owner -1", x.thing(0, -1), -1);
        for (int i = 0; i < 40; i++) {
            check.due("thing " + i, x.thing(i % 8, 7 - i % 8), i);
        }
        check.due("thing 40", x.thing(0, 0), -1);
        check.due("things(39, 0)", x.things(39, 0), 7);
        check.due("things(39, 1)", x.things(39, 1), 0);
        check.due("things(39, 2)", x.things(39, 2), 0);
        check.due("things(39, 3)", x.things(39, 3), -1);
        check.due("things(39, 4)", x.things(39, 4), 0);
        check.due("things(39, 5)", x.things(39, 5), -1);
        check.due("things(39, 6)", x.things(39, 6), 0);
        check.due("things(39, 7)", x.things(39, 7), -1);
        check.due("things(39, -1)", x.things(39, -1), -1);
        check.due("things(40, 0)", x.things(40, 0), -1);
        check.due("things(-1, 0)", x.things(-1, 0), -1);
        check.due("count of things", x.count(1), 40);
    }

    private static void ticksEnd() {
        ThingPost x = new ThingPost();
        for (int i = 1; i <= 3999; i++) {
            if (x.tick() != 0) {
                check.due("tick " + i, -9, 0);
            }
        }
        check.due("now at the end", x.count(0), 3999);
        check.due("tick beyond", x.tick(), -1);
        check.due("now beyond", x.count(0), 3999);
    }

    private static void wrongWords() {
        ThingPost x = new ThingPost();
        check.due("word of no thing", x.word(0, 1, 0, 1, 1, 1), -1);
        x.thing(0, 0);
        check.due("word count 0", x.word(0, 0, 0, 1, 1, 1), -1);
        check.due("word count 201", x.word(0, 201, 0, 1, 1, 1), -1);
        check.due("word hour -1", x.word(0, 1, -1, 1, 1, 1), -1);
        check.due("word hour 4000", x.word(0, 1, 4000, 1, 1, 1), -1);
        check.due("word a too great", x.word(0, 1, 0, 100001, 1, 1), -1);
        check.due("word b too low", x.word(0, 1, 0, 1, -100001, 1), -1);
        check.due("word c no number", x.word(0, 1, 0, 1, 1, -999999), -1);
        check.due("word thing 1", x.word(1, 1, 0, 1, 1, 1), -1);
        check.due("word thing -1", x.word(-1, 1, 0, 1, 1, 1), -1);
        check.due("no word was taken", x.count(2), 0);
        check.due("word at the edges", x.word(0, 200, 3999, 100000, -100000, NO), 0);
        check.due("word of nothing", x.word(0, 1, 0, NO, NO, NO), 1);
        check.due("word again", x.word(0, 200, 0, 1, 1, 1), -2);
        check.due("word again, but not as told", x.word(0, 200, 4000, 1, 1, 1), -1);
        check.due("two words", x.count(2), 2);
        check.due("greatest count", x.things(0, 4), 200);
        check.due("words of the thing", x.things(0, 6), 2);
    }

    private static void wordsAreLate() {
        ThingPost x = new ThingPost();
        x.thing(3, 0);
        x.thing(3, 0);
        Check.ticks(x, 5);
        x.word(0, 5, 4, 1, 2, 3);
        x.word(1, 3, 4, 1, 2, 3);
        x.tick();
        x.word(0, 3, 2, 4, 5, 6);
        x.word(0, 6, 6, 4, 5, 6);
        check.due("words(0, 0)", x.words(0, 0), 0);
        check.due("words(1, 0)", x.words(1, 0), 1);
        check.due("words(0, 1)", x.words(0, 1), 5);
        check.due("words(0, 2)", x.words(0, 2), 4);
        check.due("words(0, 3)", x.words(0, 3), 5);
        check.due("words(2, 3)", x.words(2, 3), 6);
        check.due("words(0, 4)", x.words(0, 4), 0);
        check.due("words(1, 4), of another thing", x.words(1, 4), 0);
        check.due("words(2, 4), late", x.words(2, 4), 1);
        check.due("words(3, 4)", x.words(3, 4), 0);
        check.due("words(0, 8)", x.words(0, 8), 0);
        check.due("words(0, 9)", x.words(0, 9), -1);
        check.due("words(0, -1)", x.words(0, -1), -1);
        check.due("words(4, 0)", x.words(4, 0), -1);
        check.due("words(-1, 0)", x.words(-1, 0), -1);
    }

    private static void span(ThingPost x, int word, int from, int to) {
        check.due("from of word " + word, x.words(word, 5), from);
        check.due("to of word " + word, x.words(word, 6), to);
    }

    private static void spans() {
        ThingPost x = new ThingPost();
        x.thing(0, 0);
        x.kind(0, 100, 0);
        check.due("set ahead of now", x.set(0, 1), false);
        check.due("set at 0", x.set(0, 0), true);
        check.due("set no thing", x.set(1, 0), false);
        check.due("set -1", x.set(0, -1), false);
        Check.ticks(x, 60);
        x.word(0, 1, 41, NO, NO, NO);
        span(x, 0, 36, 46);
        x.word(0, 2, 40, NO, NO, NO);
        span(x, 1, 36, 44);
        x.word(0, 3, 58, NO, NO, NO);
        span(x, 2, 52, 60);
        x.word(0, 4, 100, NO, NO, NO);
        span(x, 3, 60, 60);
        check.due("set at now", x.set(0, 60), true);
        check.due("set between", x.set(0, 40), true);
        x.word(0, 5, 41, NO, NO, NO);
        span(x, 4, 40, 42);
        x.word(0, 6, 39, NO, NO, NO);
        span(x, 5, 35, 43);
        x.word(0, 7, 60, NO, NO, NO);
        span(x, 6, 60, 60);
        span(x, 1, 36, 44);
        x.kind(0, 500, 0);
        x.word(0, 8, 49, NO, NO, NO);
        span(x, 7, 44, 54);
        span(x, 4, 40, 42);
        x.kind(0, 1, 0);
        x.word(0, 9, 50, NO, NO, NO);
        span(x, 8, 49, 51);
        x.kind(0, 0, 0);
        x.word(0, 10, 33, NO, NO, NO);
        span(x, 9, 33, 33);
        Check.ticks(x, 3939);
        x.kind(0, 499, 0);
        x.thing(0, 0);
        x.word(1, 1, 3000, NO, NO, NO);
        span(x, 10, 1503, 3999);
        x.word(1, 2, 2001, NO, NO, NO);
        span(x, 11, 1002, 3000);
    }

    private static void wordsKnowNoFuture() {
        ThingPost x = new ThingPost();
        x.thing(0, 0);
        Check.ticks(x, 10);
        x.word(0, 1, 3999, 5, NO, NO);
        span(x, 0, 10, 10);
        check.due("said at 9", x.said(0, 0, 9, 10), NO);
        check.due("said at 10", x.said(0, 0, 10, 10), 5);
        check.due("said at 10 as known on 9", x.said(0, 0, 10, 9), NO);
    }

    private static void outside() {
        ThingPost x = new ThingPost();
        x.field(0, 0, 0, 100, 2);
        x.field(0, 1, 0, 100, 0);
        x.field(0, 2, -100000, 100000, 10000);
        x.thing(0, 0);
        Check.ticks(x, 20);
        x.word(0, 1, 10, 50, 7, 0);
        check.due("the first is inside", x.words(0, 7), 0);
        x.word(0, 2, 15, 60, 7, 20000);
        check.due("at the edge", x.words(1, 7), 0);
        x.word(0, 3, 17, 55, 8, 0);
        check.due("two outside", x.words(2, 7), 3);
        x.word(0, 4, 17, NO, 9, 1);
        check.due("no growth on one tick: all that say", x.words(3, 7), 6);
        x.word(0, 5, 19, 59, 9, 1);
        check.due("the next lesser that has a number there", x.words(4, 7), 0);
        x.word(0, 6, 12, -1000, 100000, 1);
        check.due("the lesser one begins later: none", x.words(5, 7), 0);
    }

    private static void outsideOfTheLaterToldAlone() {
        ThingPost x = new ThingPost();
        x.field(0, 0, 0, 100, 1);
        x.thing(0, 0);
        Check.ticks(x, 20);
        x.word(0, 1, 10, 50, NO, NO);
        x.word(0, 9, 20, 60, NO, NO);
        check.due("inside", x.words(1, 7), 0);
        x.word(0, 5, 15, 90, NO, NO);
        check.due("a late one is outside", x.words(2, 7), 1);
        check.due("the greater one stays", x.words(1, 7), 0);
        x.forget(0);
        x.word(0, 10, 20, 99, NO, NO);
        check.due("by those not forgotten alone", x.words(3, 7), 0);
        x.field(0, 0, 0, 100, 0);
        check.due("as it was when it came", x.words(2, 7), 1);
        x.word(0, 11, 20, 100, NO, NO);
        check.due("outside by the new one", x.words(4, 7), 1);
        x.forget(0);
        x.field(0, 0, 0, 100, 10000);
        check.due("stays outside", x.words(4, 7), 1);
    }

    private static void missedCounts() {
        ThingPost x = new ThingPost();
        check.due("missed of no thing", x.missed(0, -1), -1);
        x.thing(0, 0);
        x.thing(0, 0);
        check.due("none came", x.missed(0, -1), 0);
        x.word(0, 5, 0, 1, 1, 1);
        check.due("four missed", x.missed(0, -1), 4);
        check.due("missed(0, 0)", x.missed(0, 0), 1);
        check.due("missed(0, 3)", x.missed(0, 3), 4);
        check.due("missed(0, 4)", x.missed(0, 4), -1);
        check.due("missed(0, -2)", x.missed(0, -2), -1);
        check.due("missed(1, -1)", x.missed(1, -1), 0);
        check.due("missed(2, -1)", x.missed(2, -1), -1);
        check.due("give up 5, which came", x.giveUp(0, 5), false);
        check.due("give up 6", x.giveUp(0, 6), false);
        check.due("give up 0", x.giveUp(0, 0), false);
        check.due("give up of no thing", x.giveUp(2, 1), false);
        check.due("give up 1", x.giveUp(0, 1), true);
        x.word(0, 1, 0, 1, 1, 1);
        check.due("give up 2", x.giveUp(0, 2), true);
        check.due("give up 2 again", x.giveUp(0, 2), false);
        check.due("two missed", x.missed(0, -1), 2);
        check.due("missed(0, 1)", x.missed(0, 1), 4);
        check.due("it comes yet", x.word(0, 2, 0, 1, 1, 1), 2);
        check.due("it came", x.word(0, 2, 0, 1, 1, 1), -2);
        check.due("give up what came", x.giveUp(0, 2), false);
        check.due("still two", x.missed(0, -1), 2);
        x.forget(0);
        check.due("a forgotten one came", x.missed(0, -1), 2);
        check.due("a forgotten one came, all the same", x.word(0, 5, 0, 1, 1, 1), -2);
        check.due("greatest count of forgotten ones", x.things(0, 4), 5);
        x.word(0, 200, 0, 1, 1, 1);
        check.due("missed below 200", x.missed(0, -1), 196);
        check.due("the last missed", x.missed(0, 195), 199);
    }

    private static void forgotten() {
        ThingPost x = new ThingPost();
        check.due("forget no thing", x.forget(0), -1);
        x.thing(0, 0);
        x.thing(0, 0);
        check.due("forget nothing", x.forget(0), 0);
        x.word(0, 1, 0, 1, 2, 3);
        x.word(1, 1, 0, 4, 5, 6);
        x.word(0, 2, 0, 7, 8, 9);
        check.due("forget two", x.forget(0), 2);
        check.due("forgotten", x.words(2, 8), 1);
        check.due("another thing's", x.words(1, 8), 0);
        check.due("said nothing", x.said(0, 0, 0, 0), NO);
        check.due("words of the thing", x.things(0, 6), 2);
        x.word(0, 3, 0, 1, 1, 1);
        check.due("forget one more", x.forget(0), 1);
    }

    private static void said() {
        ThingPost x = new ThingPost();
        x.thing(0, 0);
        Check.ticks(x, 10);
        x.word(0, 2, 5, 20, NO, 22);
        x.tick();
        x.word(0, 3, 8, 30, 31, NO);
        x.tick();
        x.word(0, 1, 9, 10, 11, 12);
        check.due("greatest count", x.said(0, 0, 12, 12), 30);
        check.due("as known on 10", x.said(0, 0, 12, 10), 20);
        check.due("as known on 9", x.said(0, 0, 12, 9), NO);
        check.due("at 7", x.said(0, 0, 7, 12), 20);
        check.due("at 4", x.said(0, 0, 4, 12), NO);
        check.due("field 1 at 7", x.said(0, 1, 7, 12), NO);
        check.due("field 1 at 8", x.said(0, 1, 8, 12), 31);
        check.due("field 2", x.said(0, 2, 12, 12), 22);
        check.due("ahead of now", x.said(0, 0, 3999, 3999), 30);
        check.due("tick 4000", x.said(0, 0, 4000, 12), NO);
        check.due("known 4000", x.said(0, 0, 12, 4000), NO);
        check.due("tick -1", x.said(0, 0, -1, 12), NO);
        check.due("known -1", x.said(0, 0, 12, -1), NO);
        check.due("field 3", x.said(0, 3, 12, 12), NO);
        check.due("field -1", x.said(0, -1, 12, 12), NO);
        check.due("thing 1", x.said(1, 0, 12, 12), NO);
        check.due("thing -1", x.said(-1, 0, 12, 12), NO);
    }

    private static void guess() {
        ThingPost x = new ThingPost();
        x.field(0, 0, 0, 100, 3);
        x.thing(0, 0);
        Check.ticks(x, 10);
        x.word(0, 1, 4, 50, NO, 7);
        check.due("from", x.guess(0, 0, 10, 10, 0), 32);
        check.due("to", x.guess(0, 0, 10, 10, 1), 68);
        check.due("by", x.guess(0, 0, 10, 10, 2), 0);
        check.due("at its begin", x.guess(0, 0, 4, 10, 0), 50);
        check.due("far from", x.guess(0, 0, 3999, 10, 0), 0);
        check.due("far to", x.guess(0, 0, 3999, 10, 1), 100);
        check.due("field 2 from", x.guess(0, 2, 10, 10, 0), 7);
        check.due("field 2 to", x.guess(0, 2, 10, 10, 1), 7);
        check.due("none at 3", x.guess(0, 0, 3, 10, 0), NO);
        check.due("none at 3, by", x.guess(0, 0, 3, 10, 2), -1);
        check.due("none in field 1", x.guess(0, 1, 10, 10, 1), NO);
        check.due("known 9, by", x.guess(0, 0, 10, 9, 2), -1);
        check.due("part 3", x.guess(0, 0, 10, 10, 3), NO);
        check.due("part -1", x.guess(0, 0, 10, 10, -1), NO);
        check.due("thing 1", x.guess(1, 0, 10, 10, 0), NO);
        check.due("thing 1, by", x.guess(1, 0, 10, 10, 2), -1);
        check.due("field 3, by", x.guess(0, 3, 10, 10, 2), -1);
        check.due("tick 4000", x.guess(0, 0, 4000, 10, 1), NO);
        check.due("known -1, by", x.guess(0, 0, 10, -1, 2), -1);
        x.field(0, 0, 60, 100, 3);
        check.due("below the least: not lower", x.guess(0, 0, 10, 10, 0), 50);
        x.field(0, 0, 0, 40, 10000);
        check.due("above the most: not higher", x.guess(0, 0, 10, 10, 1), 50);
        check.due("above the most: down to the least", x.guess(0, 0, 3999, 10, 0), 0);
    }

    private static void mostWords() {
        ThingPost x = new ThingPost();
        x.thing(0, 0);
        x.thing(0, 0);
        x.thing(0, 0);
        for (int i = 0; i < 400; i++) {
            check.due("word " + i, x.word(i / 200, i % 200 + 1, 0, i, 0, 0), i);
        }
        check.due("word 400", x.word(2, 1, 0, 0, 0, 0), -1);
        check.due("word 400, that came", x.word(0, 1, 0, 0, 0, 0), -1);
        check.due("said of the last", x.said(1, 0, 0, 0), 399);
        check.due("count of words", x.count(2), 400);
        check.due("words of thing 1", x.things(1, 6), 200);
    }
}
