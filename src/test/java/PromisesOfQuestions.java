/** The edges that promises 30 to 33 name. */
final class PromisesOfQuestions {
    private static final int[] WILD = {Integer.MIN_VALUE, -1000000, -2, 2000000000, Integer.MAX_VALUE};
    private final Check check;

    PromisesOfQuestions(Check check) {
        this.check = check;
    }

    void run() {
        question();
        width();
        ask();
        asked();
    }

    private void question() {
        check.of("Promise 30", "A QUESTION: its number; NONE: there are 8, or something is not as told (things: some of those"
            + " that are there).");
        ThingPost x = new ThingPost();
        check.due("no things are there", x.question(0, 1, 0), -1);
        check.due("no things are there, nor named", x.question(0, 0, 0), -1);
        x.thing(0, 0);
        check.due("thing 1 is not there", x.question(0, 2, 0), -1);
        check.due("thing 0 is, thing 1 is not", x.question(0, 3, 0), -1);
        check.due("none is named", x.question(0, 0, 0), -1);
        check.due("field -1", x.question(-1, 1, 0), -1);
        check.due("field 3", x.question(3, 1, 0), -1);
        check.due("width -1", x.question(0, 1, -1), -1);
        check.due("width 1000000001", x.question(0, 1, 1000000001), -1);
        check.due("thing 0 and bit 32", x.question(0, 1L << 32 | 1, 0), -1);
        check.due("thing 0 and bit 63", x.question(0, Long.MIN_VALUE | 1, 0), -1);
        check.due("the first", x.question(0, 1, 0), 0);
        check.due("the second", x.question(2, 1, 1000000000), 1);
        for (int i = 1; i < 40; i++) {
            x.thing(0, 0);
        }
        check.due("thing 39", x.question(0, 1L << 39, 0), 2);
        check.due("all", x.question(0, -1L >>> 24, 0), 3);
        check.due("all and one more", x.question(0, -1L >>> 23, 0), -1);
        for (int i = 4; i < 8; i++) {
            check.due("question " + i, x.question(0, 1, 0), i);
        }
        check.due("there are 8", x.question(0, 1, 0), -1);
        check.due("questions", x.count(6), 8);
        for (int wild : WILD) {
            Twins.unchanged(check, Twins::rich, "question of field " + wild, y -> y.question(wild, 1, 0));
            Twins.unchanged(check, Twins::rich, "question of width " + wild, y -> y.question(0, 1, wild));
            Twins.unchanged(check, Twins::rich, "question of things " + wild, y -> y.question(0, (long) wild << 4, 0));
        }
    }

    private void width() {
        check.of("Promise 31", "The sum of WIDTHS of a QUESTION at a TICK (NOW or later), nobody asked; NONE without these.");
        ThingPost x = Check.withThings(3);
        check.due("no question", x.width(0, 0), -1);
        x.field(0, 0, 0, 7, 1);
        x.question(0, 5, 3);
        x.question(1, 7, 3);
        Check.ticks(x, 2);
        check.due("at NOW", x.width(0, 2), 14);
        check.due("at one ahead of NOW", x.width(0, 1), -1);
        check.due("at 3999", x.width(0, 3999), 14);
        check.due("at 4000", x.width(0, 4000), -1);
        check.due("the second question", x.width(1, 2), 0);
        check.due("question 2", x.width(2, 2), -1);
        check.due("question -1", x.width(-1, 2), -1);
        x.word(0, 1, 2, 3, 3, 3);
        check.due("nobody asked: 0 and 7", x.width(0, 2), 7);
        check.due("nobody asked: 2 and 7", x.width(0, 3), 9);
        x.ask(3);
        check.due("nobody asked, behind ask()", x.width(0, 3), 9);
        for (int wild : WILD) {
            check.due("question " + wild, x.width(wild, 2), -1);
            check.due("at " + wild, x.width(0, wild), -1);
        }
        ThingPost y = Check.withThings(40);
        y.field(0, 0, -100000, 100000, 10000);
        y.question(0, -1L >>> 24, 0);
        check.due("the widest of all", y.width(0, 0), 40 * 200000);
    }

    private void ask() {
        check.of("Promise 32", "ASKED: the sum of COSTS; -2: SPENT; -3: no set does it; NONE: no such TICK (NOW or later), or"
            + " no QUESTION.");
        ThingPost x = Check.withThings(14);
        check.due("no question", x.ask(0), -1);
        x.field(0, 0, 0, 7, 1);
        x.kind(0, 0, 9999);
        Check.ticks(x, 2);
        x.question(0, 7, 7);
        check.due("two of three", x.ask(2), 2 * 9999);
        check.due("at 3: 7 are left for the third alone", x.ask(3), 3 * 9999);
        check.due("at 4: 4 + 4 + 4", x.ask(4), -3);
        check.due("at one ahead of NOW", x.ask(1), -1);
        check.due("at 3999", x.ask(3999), -3);
        check.due("at 4000", x.ask(4000), -1);
        for (int wild : WILD) {
            check.due("at " + wild, x.ask(wild), -1);
        }
        x.question(1, 0x1FF8, 0);
        check.due("13 things", x.ask(2), -2);
        check.due("13 things, at one ahead of NOW", x.ask(1), -1);
        ThingPost y = Check.withThings(12);
        y.field(0, 0, 0, 7, 1);
        y.kind(0, 0, 9999);
        y.question(0, 0xFFF, 0);
        check.due("12 things, all of them asked", y.ask(0), 12 * 9999);
        y.field(0, 0, 0, 0, 1);
        check.due("no one has to be asked", y.ask(0), 0);
    }

    private void asked() {
        check.of("Promise 33", "The THINGS to ask by the latest ask() that told a sum, as bits; NONE ahead of any.");
        ThingPost x = Check.withThings(40);
        check.due("ahead of any", x.asked(), -1);
        x.ask(0);
        check.due("behind one without a question", x.asked(), -1);
        x.field(0, 0, 0, 7, 1);
        x.kind(0, 0, 1);
        x.question(0, 1L << 39 | 1, 0);
        check.due("no set does it", x.ask(1), -3);
        check.due("behind that", x.asked(), -1);
        check.due("two", x.ask(0), 2);
        check.due("these", x.asked(), 1L << 39 | 1);
        x.ask(1);
        x.ask(4000);
        check.due("still these", x.asked(), 1L << 39 | 1);
        x.field(0, 0, 0, 0, 1);
        check.due("no one", x.ask(0), 0);
        check.due("a sum of 0 is one, too", x.asked(), 0);
        x.field(0, 0, 0, 7, 1);
        check.due("as it was told then", x.asked(), 0);
        x.question(0, 0x1FFF, 1000);
        check.due("spent", x.ask(0), -2);
        check.due("as it was told then", x.asked(), 0);
    }
}
