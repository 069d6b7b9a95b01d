import java.util.function.Consumer;

/** The edges that promises 27 to 29 name. */
final class PromisesOfFinder {
    private static final int NO = Check.NOTHING;
    private static final int[] WILD = {Integer.MIN_VALUE, -1000000, -2, 1000000, Integer.MAX_VALUE};
    private final Check check;

    PromisesOfFinder(Check check) {
        this.check = check;
    }

    void run() {
        pulls();
        noPulls();
        ring();
        shown();
        shownByTheLatest();
        shownWithoutThese();
    }

    private void unchanged(String call, Consumer<ThingPost> hear) {
        Twins.unchanged(check, Twins::rich, call, hear);
    }

    /** RULES 0 and 1 pull, 0 and 2 do not; 3 and 4 have too many REFS; all of them and 5 are PLAIN, 6 is not. */
    private static ThingPost ready() {
        ThingPost x = new ThingPost();
        x.field(0, 0, 0, 9, 0);
        for (int i = 0; i < 6; i++) {
            x.thing(0, 0);
        }
        String[] texts = {"when t0.f0>4 : wish t1.f0=1", "when t0.f0<7 : wish t1.f0=2", "when t0.f0<5 : wish t1.f0=3",
            "when t0.f1=0or t0.f2=0or t1.f1=0or t1.f2=0or t2.f0=0or t2.f1=0 : wish t1.f0=4",
            "when t2.f2=0or t3.f0=0or t3.f1=0or t3.f2=0or t4.f0=0or t4.f1=0or t4.f2=0 : wish t1.f0=5",
            "when t0.f0>4 : wish t1.f0=1", "when age t0>4 : wish t1.f0=1"};
        for (String text : texts) {
            Check.rule(x, 0, text);
        }
        x.force(4, false);
        return x;
    }

    private void pulls() {
        check.of("Promise 27", "TWO PULL: 1, or 0; -2: SPENT;");
        ThingPost x = ready();
        check.due("rules", x.count(3), 7);
        check.due("they do", x.pulls(0, 1), 1);
        check.due("they do, the other way", x.pulls(1, 0), 1);
        check.due("they do not", x.pulls(0, 2), 0);
        check.due("like wishes", x.pulls(0, 5), 0);
        check.due("13 refs", x.pulls(3, 4), -2);
        check.due("7 refs", x.pulls(0, 3), 1);
    }

    private void noPulls() {
        check.of("Promise 27", "NONE without these, both one, or one of them not PLAIN.");
        check.due("no rules", new ThingPost().pulls(0, 1), -1);
        ThingPost x = ready();
        check.due("rule 7", x.pulls(0, 7), -1);
        check.due("rule 7 first", x.pulls(7, 0), -1);
        check.due("rule -1", x.pulls(0, -1), -1);
        check.due("rule -1 first", x.pulls(-1, 0), -1);
        check.due("both 0", x.pulls(0, 0), -1);
        check.due("both 7", x.pulls(7, 7), -1);
        check.due("one is not plain", x.pulls(0, 6), -1);
        check.due("the first is not plain", x.pulls(6, 0), -1);
        for (int wild : WILD) {
            check.due("pulls(0, " + wild + ")", x.pulls(0, wild), -1);
            check.due("pulls(" + wild + ", 0)", x.pulls(wild, 0), -1);
        }
        unchanged("pulls of one", y -> y.pulls(0, 0));
        unchanged("pulls of no rule", y -> y.pulls(0, 4));
        unchanged("pulls of one that is not plain", y -> y.pulls(0, 2));
    }

    private void ring() {
        check.of("Promise 28", "A RING is found: how many RULES it has; 0: none; -2: SPENT.");
        check.due("no rules", new ThingPost().ring(), 0);
        ThingPost x = ready();
        x.force(3, false);
        check.due("rules 0 and 1", x.ring(), 2);
        x.force(1, false);
        check.due("no ring", x.ring(), 0);
        x.force(3, true);
        x.force(4, true);
        check.due("14 refs", x.ring(), -2);
        ThingPost y = Check.withThings(2);
        for (int i = 0; i < 20; i++) {
            Check.rule(y, 0, "when t0.f0=" + (i + 19) % 20 + ":wish t0.f0=" + i);
        }
        check.due("twenty rules, from 0", y.ring(), 20);
        for (int k = 0; k < 20; k++) {
            check.due("rule " + k, y.shown(k, 3), (k + 1) % 20);
        }
        check.due("no more", y.shown(20, 3), NO);
    }

    private void shows(ThingPost x, int k, int thing, int field, int number, int rule) {
        check.due("shown(" + k + ", 0)", x.shown(k, 0), thing);
        check.due("shown(" + k + ", 1)", x.shown(k, 1), field);
        check.due("shown(" + k + ", 2)", x.shown(k, 2), number);
        check.due("shown(" + k + ", 3)", x.shown(k, 3), rule);
    }

    private void shown() {
        check.of("Promise 29", "k-th REF what 0: THING, 1: FIELD, 2: its number at the START; k-th RULE of the RING what 3"
            + " (one behind the other).");
        ThingPost x = new ThingPost();
        x.field(0, 1, -7, 7, 0);
        x.thing(0, 0);
        x.thing(0, 0);
        Check.rule(x, 0, "when t1.f1=6 or t0.f1=-8 : wish t1.f1=5");
        Check.rule(x, 0, "when t1.f1=5 : wish t1.f1=4");
        Check.rule(x, 0, "when t1.f1=4 : wish t1.f1=6");
        check.due("a ring", x.ring(), 3);
        // From t1.f1 = 4: 6, 5, 4.
        shows(x, 0, 0, 1, -7, 2);
        shows(x, 1, 1, 1, 3 + 1, 0);
        shows(x, 2, NO, NO, NO, 1);
        shows(x, 3, NO, NO, NO, NO);
        check.due("two pull", x.pulls(0, 1), 0);
        Check.rule(x, 0, "when t1.f1>=6 : wish t1.f1=3");
        check.due("two pull", x.pulls(3, 0), 1);
        shows(x, 0, 0, 1, -7, NO);
        shows(x, 1, 1, 1, 6, NO);
    }

    private void shownByTheLatest() {
        check.of("Promise 29", "By the latest pulls() that told 1 or 0, or ring() that told some or none, if it found"
            + " something:");
        ThingPost x = ready();
        shows(x, 0, NO, NO, NO, NO);
        x.pulls(0, 1);
        shows(x, 0, 0, 0, 5, NO);
        x.pulls(0, 0);
        x.pulls(0, 6);
        x.pulls(0, 99);
        x.pulls(3, 4);
        shows(x, 0, 0, 0, 5, NO);
        x.force(4, true);
        check.due("a ring that is spent", x.ring(), -2);
        shows(x, 0, 0, 0, 5, NO);
        check.due("pulls that tells 0", x.pulls(0, 2), 0);
        shows(x, 0, NO, NO, NO, NO);
        x.force(3, false);
        x.force(4, false);
        check.due("a ring", x.ring(), 2);
        shows(x, 0, 0, 0, 0, 2);
        x.pulls(3, 4);
        x.pulls(1, 1);
        shows(x, 0, 0, 0, 0, 2);
        x.force(1, false);
        x.force(2, false);
        shows(x, 1, NO, NO, NO, 1);
        check.due("no ring", x.ring(), 0);
        shows(x, 0, NO, NO, NO, NO);
        x.force(1, true);
        x.force(2, true);
        x.ring();
        check.due("pulls that tells 0, as the wishes are like", x.pulls(0, 5), 0);
        shows(x, 0, NO, NO, NO, NO);
        x.ring();
        x.pulls(0, 1);
        shows(x, 0, 0, 0, 5, NO);
        x.field(0, 0, 0, 3, 0);
        shows(x, 0, 0, 0, 5, NO);
    }

    private void shownWithoutThese() {
        check.of("Promise 29", "-1000000 without these.");
        ThingPost x = ready();
        for (int what = -1; what < 5; what++) {
            check.due("nothing found yet, what " + what, x.shown(0, what), NO);
        }
        x.force(3, false);
        x.ring();
        for (int what = 0; what < 3; what++) {
            check.due("shown(1, " + what + ")", x.shown(1, what), NO);
            check.due("shown(-1, " + what + ")", x.shown(-1, what), NO);
        }
        check.due("the last rule", x.shown(1, 3), 1);
        check.due("shown(2, 3)", x.shown(2, 3), NO);
        check.due("shown(-1, 3)", x.shown(-1, 3), NO);
        check.due("shown(0, 4)", x.shown(0, 4), NO);
        check.due("shown(0, -1)", x.shown(0, -1), NO);
        for (int wild : WILD) {
            check.due("shown(" + wild + ", 0)", x.shown(wild, 0), NO);
            check.due("shown(" + wild + ", 3)", x.shown(wild, 3), NO);
            check.due("shown(0, " + wild + ")", x.shown(0, wild), NO);
        }
    }
}
