/** The edges that part V of the terms names: questions, widths, and the things to ask. */
final class TermsOfQuestions {
    private static final int NO = Check.NOTHING;
    private static final String PART = "Terms V";
    private final Check check;

    TermsOfQuestions(Check check) {
        this.check = check;
    }

    void run() {
        questions();
        answered();
        widthOfGuess();
        widthAsked();
        widthAskedAtMost();
        notAboveTheFormer();
        named();
        leastCosts();
        leastNumber();
    }

    private void of(String words) {
        check.of(PART, words);
    }

    private void questions() {
        of("QUESTIONS 0 to 7: a FIELD, a set of THINGS (bits), a WIDTH (0 to 1000000000):");
        ThingPost x = Check.withThings(2);
        check.due("nothing there yet", x.width(0, 0), -1);
        check.due("width 1000000001", x.question(0, 1, 1000000001), -1);
        check.due("width -1", x.question(0, 1, -1), -1);
        check.due("field 3", x.question(3, 1, 0), -1);
        check.due("field -1", x.question(-1, 1, 0), -1);
        check.due("no bits", x.question(0, 0, 0), -1);
        check.due("bit of a thing that is not there", x.question(0, 4, 0), -1);
        for (int i = 0; i < 8; i++) {
            check.due("question " + i, x.question(i % 3, 1 + i % 3, i % 2 == 0 ? 1000000000 : 0), i);
        }
        check.due("question 8", x.question(0, 1, 0), -1);
        check.due("questions", x.count(6), 8);
        check.due("width of question 7", x.width(7, 0), 0);
        check.due("width of question 8", x.width(8, 0), -1);
        check.due("width of question -1", x.width(-1, 0), -1);
        ThingPost y = Check.withThings(40);
        y.field(0, 2, 0, 5, 0);
        check.due("all forty things", y.question(2, (1L << 40) - 1, 0), 0);
        check.due("their widths", y.width(0, 0), 200);
        check.due("thing 39 alone", y.question(2, 1L << 39, 0), 1);
        check.due("its width", y.width(1, 0), 5);
        check.due("bit 40", y.question(2, 1L << 40, 0), -1);
        check.due("bit 63", y.question(2, Long.MIN_VALUE, 0), -1);
        check.due("all bits", y.question(2, -1L, 0), -1);
    }

    private void answered() {
        of("it is ANSWERED at a TICK t (NOW or later), if the WIDTHS of that FIELD of these THINGS together are not above"
            + " it.");
        ThingPost x = Check.withThings(3);
        x.field(0, 0, 0, 10, 0);
        x.field(0, 1, 0, 3, 0);
        x.kind(0, 0, 5);
        x.question(0, 3, 20);
        check.due("20 are not above 20", x.ask(0), 0);
        x.question(1, 7, 9);
        check.due("9 are not above 9", x.ask(0), 0);
        x.question(0, 5, 19);
        check.due("20 are above 19", x.ask(0), 5);
        x.tick();
        check.due("at NOW", x.ask(1), 5);
        check.due("later", x.ask(3999), 5);
        check.due("ahead of NOW", x.ask(0), -1);
        check.due("behind the last tick", x.ask(4000), -1);
        check.due("width ahead of NOW", x.width(0, 0), -1);
        check.due("width at NOW", x.width(0, 1), 20);
        check.due("width at the last tick", x.width(0, 3999), 20);
        check.due("width behind the last tick", x.width(0, 4000), -1);
    }

    private void widthOfGuess() {
        of("The WIDTH of one at t: of its GUESS as KNOWN NOW (MOST less LEAST without one);");
        ThingPost x = new ThingPost();
        x.field(0, 0, -10, 90, 3);
        x.field(1, 0, -100000, 100000, 0);
        x.thing(0, 0);
        x.thing(1, 0);
        x.question(0, 1, 0);
        x.question(0, 2, 0);
        check.due("without one", x.width(0, 0), 100);
        check.due("the widest", x.width(1, 0), 200000);
        check.due("the widest at the end", x.width(1, 3999), 200000);
        Check.ticks(x, 10);
        x.word(0, 1, 8, 80, NO, NO);
        check.due("at NOW: 74 to 86", x.width(0, 10), 12);
        check.due("two ticks later: 68 to 90", x.width(0, 12), 22);
        check.due("far away", x.width(0, 3999), 100);
        x.word(0, 2, 10, NO, 5, 5);
        check.due("of the one that has a number there", x.width(0, 10), 12);
        x.word(0, 3, 10, 99, NO, NO);
        check.due("above the most: 96 to 99", x.width(0, 11), 3);
        check.due("above the most, far away: -10 to 99", x.width(0, 3999), 109);
        x.forget(0);
        check.due("forgotten", x.width(0, 10), 100);
    }

    private void widthAsked() {
        of("if it is asked NOW: 2 * RATE * (t less NOW)");
        ThingPost x = Check.withThings(1);
        x.field(0, 0, 0, 100, 3);
        x.kind(0, 0, 7);
        x.question(0, 1, 30);
        Check.ticks(x, 4);
        check.due("0 at NOW", x.ask(4), 7);
        check.due("30 at 9", x.ask(9), 7);
        check.due("36 at 10", x.ask(10), -3);
        x.question(0, 1, 0);
        check.due("0 at NOW", x.ask(4), 7);
        check.due("6 at 5", x.ask(5), -3);
        x.field(0, 0, 0, 100, 0);
        check.due("0 at the last tick without a rate", x.ask(3999), 7);
    }

    private void widthAskedAtMost() {
        of("MOST less LEAST at most, and not above the former.");
        ThingPost x = Check.withThings(1);
        x.field(0, 0, 0, 10, 1);
        x.kind(0, 0, 7);
        x.word(0, 1, 0, 30, NO, NO);
        x.question(0, 1, 10);
        check.due("without asking: 0 to 30", x.width(0, 3999), 30);
        check.due("10 when it is asked", x.ask(3999), 7);
        check.due("2 when it is asked, 1 without", x.ask(1), 0);
        x.field(0, 0, 0, 11, 1);
        check.due("11 when it is asked", x.ask(3999), -3);
        x.field(0, 0, -100000, 100000, 10000);
        x.question(0, 1, 200000);
        check.due("the greatest rate, far away", x.ask(3999), -3);
        ThingPost y = Check.withThings(1);
        y.field(0, 0, -100000, 100000, 10000);
        y.question(0, 1, 200000);
        check.due("200000 at most", y.ask(3999), 0);
    }

    private void notAboveTheFormer() {
        of("and not above the former.");
        ThingPost x = Check.withThings(1);
        x.field(0, 0, 0, 100, 0);
        x.field(0, 1, 0, 100, 2);
        x.kind(0, 0, 7);
        x.word(0, 1, 0, NO, 0, NO);
        x.question(0, 1, 0);
        x.question(1, 1, 10);
        // Field 0 has to be asked; field 1, from 0 to 10 at 5, stays as narrow, though 20 could have come of asking.
        check.due("width of field 1", x.width(1, 5), 10);
        check.due("asked for field 0", x.ask(5), 7);
        check.due("at 6 field 1 goes to 12", x.ask(6), -3);
    }

    private void named() {
        of("ASKED: the set of THINGS named in QUESTIONS (12 at most, else SPENT) with which all are ANSWERED");
        ThingPost x = Check.withThings(14);
        x.field(0, 0, 0, 1, 0);
        x.kind(0, 0, 1);
        x.question(0, 0x3F, 0);
        x.question(1, 0x3F, 0);
        check.due("six", x.ask(0), 6);
        x.question(0, 0xFC0, 0);
        check.due("twelve", x.ask(0), 12);
        check.due("these", x.asked(), 0xFFFL);
        x.question(0, 0x801, 2);
        check.due("twelve, named again", x.ask(0), 12);
        x.question(0, 0x2000, 9);
        check.due("thirteen", x.ask(0), -2);
        check.due("as it was asked last", x.asked(), 0xFFFL);
        ThingPost y = Check.withThings(40);
        y.field(0, 0, 0, 1, 0);
        y.kind(0, 0, 1);
        y.question(0, 0xFFFL << 28, 0);
        check.due("the last twelve", y.ask(0), 12);
        check.due("these", y.asked(), 0xFFFL << 28);
        y.question(0, 1L << 27, 9);
        check.due("the last thirteen", y.ask(0), -2);
    }

    private void leastCosts() {
        of("at the least sum of COSTS of their KINDS;");
        ThingPost x = new ThingPost();
        for (int kind = 0; kind < 4; kind++) {
            x.field(kind, 0, 0, kind == 3 ? 20 : 10, 0);
            x.kind(kind, 0, kind == 3 ? 9 : 4 + kind);
            x.thing(kind, 0);
        }
        x.question(0, 15, 30);
        // 20 of 50 are too many: thing 3 for 9, or two of the others, for 4 + 5 at least.
        check.due("two for 9, or one for 9", x.ask(0), 9);
        check.due("the least as a number", x.asked(), 3);
        x.kind(3, 0, 8);
        check.due("one for 8", x.ask(0), 8);
        check.due("thing 3", x.asked(), 8);
        x.kind(3, 0, 10);
        check.due("two for 9", x.ask(0), 9);
        check.due("things 0 and 1", x.asked(), 3);
        x.kind(0, 0, 6);
        x.kind(2, 0, 4);
        check.due("the other two", x.ask(0), 9);
        check.due("things 1 and 2", x.asked(), 6);
        x.question(0, 1, 9);
        check.due("thing 0 for the second question, thing 2 for the first", x.ask(0), 10);
        check.due("things 0 and 2", x.asked(), 5);
        for (int kind = 0; kind < 4; kind++) {
            x.kind(kind, 0, 9999);
        }
        check.due("the greatest costs", x.ask(0), 2 * 9999);
    }

    private void leastNumber() {
        of("of several the least as a number.");
        ThingPost x = Check.withThings(40);
        x.field(0, 0, 0, 10, 0);
        x.kind(0, 0, 3);
        x.question(0, 0xFL << 36, 20);
        check.due("any two", x.ask(0), 6);
        check.due("the lower two", x.asked(), 3L << 36);
        x.kind(0, 0, 0);
        check.due("any, at no cost", x.ask(0), 0);
        check.due("the lower two, none in vain", x.asked(), 3L << 36);
        ThingPost y = new ThingPost();
        for (int kind = 0; kind < 3; kind++) {
            y.field(kind, 0, 0, kind == 2 ? 20 : 10, 0);
            y.kind(kind, 0, kind == 2 ? 6 : 3);
            y.thing(kind, 0);
        }
        y.question(0, 7, 20);
        check.due("two for 6 or one for 6", y.ask(0), 6);
        check.due("3 is less than 4", y.asked(), 3);
        y.question(0, 4, 20);
        y.kind(0, 0, 0);
        y.kind(1, 0, 6);
        check.due("0 and 1, or 0 and 2, or 2 for 6", y.ask(0), 6);
        check.due("3 is less than 4 and 5", y.asked(), 3);
    }
}
