/** Promises 30 to 33: questions, their widths, and which things to ask. */
public final class QuestionsTest {
    private static final int NO = Check.NOTHING;
    private static final Check check = new Check();

    public static void main(String[] args) {
        wrongQuestions();
        widths();
        asking();
        leastCost();
        severalQuestions();
        spent();
        check.end();
    }

    private static void wrongQuestions() {
        ThingPost x = new ThingPost();
        check.due("ask, no question", x.ask(0), -1);
        check.due("asked ahead of any", x.asked(), -1);
        check.due("question of no things", x.question(0, 1, 0), -1);
        x.thing(0, 0);
        x.thing(0, 0);
        check.due("question field 3", x.question(3, 1, 0), -1);
        check.due("question field -1", x.question(-1, 1, 0), -1);
        check.due("question width -1", x.question(0, 1, -1), -1);
        check.due("question width too great", x.question(0, 1, 1000000001), -1);
        check.due("question of none", x.question(0, 0, 0), -1);
        check.due("question of a thing not there", x.question(0, 4, 0), -1);
        check.due("question of a thing not there, too", x.question(0, 5, 0), -1);
        check.due("question of all bits", x.question(0, -1L, 0), -1);
        check.due("question of the highest bit", x.question(0, Long.MIN_VALUE, 0), -1);
        check.due("question bit 40", x.question(0, 1L << 40, 0), -1);
        check.due("width of none", x.width(0, 0), -1);
        for (int i = 0; i < 8; i++) {
            check.due("question " + i, x.question(2, 3, 1000000000), i);
        }
        check.due("question 8", x.question(0, 1, 0), -1);
        check.due("count of questions", x.count(6), 8);
        check.due("width(8, 0)", x.width(8, 0), -1);
        check.due("width(-1, 0)", x.width(-1, 0), -1);
        x.tick();
        check.due("width ahead of now", x.width(0, 0), -1);
        check.due("width at 4000", x.width(0, 4000), -1);
        check.due("width at 3999", x.width(0, 3999), 0);
        check.due("ask ahead of now", x.ask(0), -1);
        check.due("ask at 4000", x.ask(4000), -1);
        check.due("ask at 3999", x.ask(3999), 0);
        check.due("asked nobody", x.asked(), 0);
        ThingPost y = new ThingPost();
        for (int i = 0; i < 40; i++) {
            y.thing(0, 0);
        }
        check.due("question of thing 39", y.question(0, 1L << 39, 0), 0);
        check.due("question of thing 40", y.question(0, 1L << 40, 0), -1);
    }

    private static void widths() {
        ThingPost x = new ThingPost();
        x.field(0, 0, -50, 50, 2);
        x.field(1, 0, 0, 7, 1);
        x.thing(0, 0);
        x.thing(1, 0);
        x.question(0, 3, 10);
        x.question(0, 1, 10);
        x.question(1, 3, 10);
        check.due("nothing said", x.width(0, 0), 107);
        check.due("of thing 0 alone", x.width(1, 0), 100);
        check.due("of another field", x.width(2, 0), 0);
        Check.ticks(x, 10);
        x.word(0, 1, 5, 45, NO, NO);
        check.due("now: 35 to 50", x.width(1, 10), 15);
        check.due("later: 25 to 50", x.width(1, 15), 25);
        check.due("both", x.width(0, 15), 32);
        check.due("at the end", x.width(1, 3999), 100);
        x.word(0, 2, 10, 90, NO, NO);
        check.due("above the most, now", x.width(1, 10), 0);
        check.due("above the most, at the end", x.width(1, 3999), 140);
        x.forget(0);
        check.due("forgotten", x.width(1, 10), 100);
    }

    private static void asking() {
        ThingPost x = new ThingPost();
        x.field(0, 0, 0, 100, 2);
        x.kind(0, 0, 30);
        x.thing(0, 0);
        x.thing(0, 0);
        x.question(0, 3, 120);
        check.due("nobody said: ask one", x.ask(0), 30);
        check.due("the least as a number", x.asked(), 1);
        check.due("at 5: 20 and 100", x.ask(5), 30);
        check.due("at 6: 24 and 100, so both", x.ask(6), 60);
        check.due("both", x.asked(), 3);
        check.due("at 15: 60 and 60", x.ask(15), 60);
        check.due("at 16: 64 and 64", x.ask(16), -3);
        check.due("asked stays", x.asked(), 3);
        Check.ticks(x, 4);
        x.word(0, 1, 4, 10, NO, NO);
        check.due("one said", x.ask(4), 0);
        check.due("ask nobody", x.asked(), 0);
        check.due("at 9: 20 and 100", x.ask(9), 0);
        check.due("at 10: 22 and 100, or 22 and 24", x.ask(10), 30);
        check.due("the other one", x.asked(), 2);
        x.field(0, 0, 0, 20, 2);
        x.word(0, 2, 4, 200, NO, NO);
        // Its guess, from 198 to 200, is not so wide as what is asked can be.
        x.question(0, 1, 1);
        check.due("not above what it is without asking", x.ask(5), -3);
        check.due("width", x.width(1, 5), 2);
        x.question(0, 1, 2);
        check.due("not above what it is, too", x.width(2, 5), 2);
    }

    private static void leastCost() {
        ThingPost x = new ThingPost();
        for (int kind = 0; kind < 4; kind++) {
            x.field(kind, 0, 0, 10 * kind + 10, 0);
            x.thing(kind, 0);
        }
        x.kind(0, 0, 5);
        x.kind(1, 0, 5);
        x.kind(2, 0, 10);
        x.kind(3, 0, 11);
        x.question(0, 15, 70);
        check.due("width of all", x.width(0, 0), 100);
        // 30 are to be taken off: things 0 and 1 for 10, or thing 2 for 10, or thing 3 for 11.
        check.due("least cost", x.ask(0), 10);
        check.due("the least as a number", x.asked(), 3);
        x.kind(0, 0, 6);
        check.due("least cost again", x.ask(0), 10);
        check.due("thing 2", x.asked(), 4);
        x.kind(2, 0, 12);
        check.due("the two or thing 3", x.ask(0), 11);
        check.due("the two", x.asked(), 3);
        x.kind(3, 0, 0);
        check.due("free of cost", x.ask(0), 0);
        check.due("thing 3", x.asked(), 8);
        x.kind(0, 0, 0);
        check.due("free ones are not asked in vain", x.ask(0), 0);
        check.due("thing 3 alone", x.asked(), 8);
    }

    private static void severalQuestions() {
        ThingPost x = new ThingPost();
        x.field(0, 0, 0, 10, 0);
        x.field(0, 1, 0, 20, 0);
        x.kind(0, 0, 1);
        for (int i = 0; i < 5; i++) {
            x.thing(0, 0);
        }
        x.question(0, 3, 10);
        x.question(1, 6, 20);
        check.due("thing 1 answers both", x.ask(0), 1);
        check.due("thing 1", x.asked(), 2);
        x.question(0, 24, 0);
        check.due("two more", x.ask(0), 3);
        check.due("three", x.asked(), 26);
        x.word(1, 1, 0, 5, NO, NO);
        check.due("field 0 said: field 1 is still to be asked", x.ask(0), 3);
        check.due("the least as a number of 1 and 2", x.asked(), 26);
        x.word(3, 1, 0, 5, NO, NO);
        x.word(4, 1, 0, 6, NO, NO);
        check.due("said", x.ask(0), 1);
        check.due("asked", x.asked(), 2);
    }

    private static void spent() {
        ThingPost x = new ThingPost();
        for (int i = 0; i < 40; i++) {
            x.thing(0, 0);
        }
        x.field(0, 0, 0, 1, 0);
        x.kind(0, 0, 9999);
        x.question(0, 0xFL << 36, 0);
        x.question(0, 0xFFL, 0);
        check.due("twelve", x.ask(0), 12 * 9999);
        check.due("asked twelve", x.asked(), 0xF0000000FFL);
        x.question(0, 0xFFL, 9);
        check.due("twelve again", x.ask(0), 12 * 9999);
        x.question(1, 0x100L, 9);
        check.due("thirteen", x.ask(0), -2);
        check.due("asked stays", x.asked(), 0xF0000000FFL);
        check.due("no tick comes first", x.ask(-1), -1);
        ThingPost y = new ThingPost();
        for (int i = 0; i < 40; i++) {
            y.thing(0, 0);
        }
        y.question(0, 0xFFFL << 28, 0);
        check.due("the twelve last", y.ask(0), 0);
        y.question(0, 1L << 27, 0);
        check.due("thirteen of the last", y.ask(0), -2);
    }
}
