/** The edges that part II of the terms names for rules as they are looked at: values, HELD, ACTS, LED by, WOULD. */
final class TermsOfRules {
    private static final int NO = Check.NOTHING;
    private static final String PART = "Terms II";
    private final Check check;

    TermsOfRules(Check check) {
        this.check = check;
    }

    void run() {
        refs();
        extremes();
        extremesAmongWords();
        reaches();
        ages();
        noNumber();
        lasting();
        notBelowTheTelling();
        unless();
        looks();
        lookedAt();
        wishesAndOrders();
        fiftyTicks();
        mostActs();
        mostOrders();
        led();
        would();
        outOfForce();
    }

    private void of(String words) {
        check.of(PART, words);
    }

    private void held(ThingPost x, int rule, int at, int known, int want) {
        check.due("held(" + rule + ", " + at + ", " + known + ")", x.held(rule, at, known), want);
    }

    private static int when(ThingPost x, String test) {
        return Check.rule(x, 0, "when " + test + " : wish t0.f0=1");
    }

    /** The only TICKS from 0 to 99 at which a RULE is HELD are due to be those from one to another. */
    private void heldFromTo(ThingPost x, int rule, int known, int from, int to) {
        int first = -1;
        int last = -1;
        int many = 0;
        for (int t = 0; t < 100; t++) {
            if (x.held(rule, t, known) == 1) {
                first = many == 0 ? t : first;
                last = t;
                many++;
            }
        }
        check.due("first tick at which rule " + rule + " is held", first, from);
        check.due("last tick at which rule " + rule + " is held", last, to);
        check.due("ticks at which rule " + rule + " is held", many, from < 0 ? 0 : to - from + 1);
    }

    private void refs() {
        of("A VALUE at t as KNOWN on k: a REF: what is SAID;");
        ThingPost x = Check.withThings(1);
        when(x, "t0.f1=7");
        when(x, "t0.f1=8");
        Check.ticks(x, 5);
        x.word(0, 1, 3, NO, 7, NO);
        x.tick();
        x.word(0, 2, 6, NO, 8, NO);
        held(x, 0, 2, 6, 0);
        held(x, 0, 3, 6, 1);
        held(x, 0, 3, 5, 1);
        held(x, 0, 3, 4, 0);
        held(x, 0, 5, 6, 1);
        held(x, 0, 6, 6, 0);
        held(x, 0, 6, 5, 1);
        held(x, 1, 6, 6, 1);
    }

    private void extremes() {
        of("max, min: the greatest, the least of all numbers of that FIELD of WORDS that CAME by k");
        ThingPost x = Check.withThings(2);
        when(x, "max t0.f0 60=50");
        when(x, "max t0.f0 60=60");
        when(x, "min t0.f0 60=50");
        when(x, "min t0.f0 60=40");
        Check.ticks(x, 3);
        x.word(0, 5, 0, 50, -5, 500);
        x.word(1, 5, 0, 0, 0, 0);
        x.word(1, 6, 0, 99, 99, 99);
        x.tick();
        x.word(0, 4, 0, 60, NO, NO);
        x.word(0, 3, 0, 40, NO, NO);
        held(x, 0, 10, 2, 0);
        held(x, 0, 10, 3, 1);
        held(x, 0, 10, 4, 0);
        held(x, 1, 10, 3, 0);
        held(x, 1, 10, 4, 1);
        held(x, 2, 10, 2, 0);
        held(x, 2, 10, 3, 1);
        held(x, 2, 10, 4, 0);
        held(x, 3, 10, 4, 1);
        when(x, "max t0.f1 60=-5 and min t0.f1 60=-5");
        when(x, "max t0.f2 60=500 and min t0.f2 60=500");
        held(x, 4, 10, 4, 1);
        held(x, 5, 10, 4, 1);
    }

    private void extremesAmongWords() {
        of("were not FORGOTTEN");
        ThingPost x = Check.withThings(1);
        when(x, "max t0.f0 60>0");
        when(x, "min t0.f0 60>0");
        x.word(0, 9, 0, 50, NO, NO);
        held(x, 0, 0, 0, 1);
        held(x, 1, 0, 0, 1);
        x.tick();
        x.forget(0);
        held(x, 0, 0, 0, 0);
        held(x, 1, 0, 0, 0);
        x.word(0, 1, 0, 60, NO, NO);
        held(x, 0, 0, 1, 1);
        held(x, 1, 0, 1, 1);
    }

    private void reaches() {
        of("and whose SPAN meets the N TICKS up to t;");
        ThingPost x = Check.withThings(1);
        for (String test : new String[] {"max t0.f0 3=9", "min t0.f0 1=9", "max t0.f0 60=9", "min t0.f0 60=9"}) {
            when(x, test);
        }
        x.kind(0, 500, 0);
        Check.ticks(x, 30);
        // Its SPAN is 6 to 18.
        x.word(0, 1, 12, 9, NO, NO);
        heldFromTo(x, 0, 30, 6, 20);
        heldFromTo(x, 1, 30, 6, 18);
        heldFromTo(x, 2, 30, 6, 77);
        heldFromTo(x, 3, 30, 6, 77);
    }

    private void ages() {
        of("age: t less the TICK on which the latest of its WORDS CAME (of those by t and by k).");
        ThingPost x = Check.withThings(2);
        when(x, "age t0=0");
        when(x, "age t0=2");
        when(x, "age t0>=0");
        Check.ticks(x, 6);
        x.word(0, 9, 0, 1, 1, 1);
        Check.ticks(x, 3);
        x.word(0, 2, 0, 1, 1, 1);
        x.word(1, 1, 0, 1, 1, 1);
        x.tick();
        held(x, 0, 5, 9, 0);
        held(x, 2, 5, 9, 0);
        held(x, 0, 6, 9, 1);
        held(x, 0, 6, 5, 0);
        held(x, 1, 8, 9, 1);
        held(x, 1, 9, 9, 0);
        held(x, 0, 9, 9, 1);
        held(x, 0, 9, 8, 0);
        held(x, 1, 11, 9, 1);
        held(x, 1, 11, 8, 0);
        x.forget(0);
        held(x, 0, 9, 9, 1);
        held(x, 2, 3999, 3999, 1);
    }

    private void noNumber() {
        of("A FACT whose VALUE has no number is false.");
        ThingPost x = Check.withThings(1);
        String[] values = {"t0.f0", "max t0.f0 60", "min t0.f0 60", "age t0"};
        for (String value : values) {
            check.due("rule", when(x, value + "<=999999"), x.count(3) - 1);
            held(x, x.count(3) - 1, 0, 0, 0);
            when(x, value + ">=-999999");
            held(x, x.count(3) - 1, 0, 0, 0);
            when(x, "not " + value + "<=999999");
            held(x, x.count(3) - 1, 0, 0, 1);
        }
        x.word(0, 1, 0, NO, NO, NO);
        held(x, 0, 0, 0, 0);
        held(x, 3, 0, 0, 0);
        held(x, 6, 0, 0, 0);
        held(x, 9, 0, 0, 1);
    }

    private void lasting() {
        of("A RULE is HELD at t as KNOWN on k, if when is true at the N TICKS up to t (1 without for;");
        ThingPost x = Check.withThings(1);
        when(x, "t0.f0=1");
        when(x, "t0.f0=1 for 1");
        when(x, "t0.f0=1 for 3");
        when(x, "t0.f0=1 for 60");
        Check.ticks(x, 30);
        x.word(0, 1, 5, 1, NO, NO);
        x.word(0, 2, 25, 2, NO, NO);
        heldFromTo(x, 0, 30, 5, 24);
        heldFromTo(x, 1, 30, 5, 24);
        heldFromTo(x, 2, 30, 7, 24);
        heldFromTo(x, 3, 30, -1, -1);
        ThingPost y = Check.withThings(1);
        when(y, "t0.f0=1 for 60");
        Check.ticks(y, 5);
        y.word(0, 1, 5, 1, NO, NO);
        held(y, 0, 63, 5, 0);
        held(y, 0, 64, 5, 1);
        held(y, 0, 64, 4, 0);
    }

    private void notBelowTheTelling() {
        of("none of them below the TICK on which the RULE was told, and none below 0)");
        ThingPost x = Check.withThings(1);
        when(x, "not t0.f0=1");
        when(x, "not t0.f0=1 for 3");
        when(x, "not t0.f0=1 for 60");
        Check.ticks(x, 10);
        when(x, "not t0.f0=1");
        when(x, "not t0.f0=1 for 3");
        held(x, 0, 0, 10, 1);
        held(x, 1, 0, 10, 0);
        held(x, 1, 1, 10, 0);
        held(x, 1, 2, 10, 1);
        held(x, 2, 58, 10, 0);
        held(x, 2, 59, 10, 1);
        held(x, 3, 0, 10, 0);
        held(x, 3, 9, 10, 0);
        held(x, 3, 10, 10, 1);
        held(x, 3, 10, 0, 1);
        held(x, 4, 10, 10, 0);
        held(x, 4, 11, 10, 0);
        held(x, 4, 12, 10, 1);
    }

    private void unless() {
        of("and unless (if there is one) is not true at t.");
        ThingPost x = Check.withThings(1);
        when(x, "not t0.f0=5 for 3 unless t0.f1=1");
        when(x, "not t0.f0=5 unless t0.f1=1");
        when(x, "t0.f0=6 unless t0.f1=1");
        Check.ticks(x, 30);
        x.word(0, 1, 10, NO, 1, NO);
        x.word(0, 2, 11, NO, 2, NO);
        held(x, 0, 9, 30, 1);
        held(x, 0, 10, 30, 0);
        held(x, 0, 11, 30, 1);
        held(x, 0, 10, 29, 1);
        held(x, 1, 10, 30, 0);
        held(x, 1, 11, 30, 1);
        held(x, 2, 9, 30, 0);
    }

    private void looks() {
        of("With each TICK that comes the RULES in force are looked at, by numbers, at NOW as KNOWN NOW:");
        ThingPost x = Check.withThings(1);
        for (int i = 0; i < 3; i++) {
            when(x, "t0.f0=1");
        }
        x.force(1, false);
        x.word(0, 1, 0, 1, NO, NO);
        check.due("nothing is looked at without a tick", x.count(4), 0);
        check.due("two act", x.tick(), 2);
        check.due("the first by number", x.acts(0, 0), 0);
        check.due("the second by number", x.acts(1, 0), 2);
        check.due("on this tick", x.acts(0, 1), 1);
        ThingPost y = Check.withThings(1);
        when(y, "t0.f0=1");
        when(y, "age t0=1");
        y.word(0, 1, 1, 1, NO, NO);
        check.due("at NOW, both", y.tick(), 2);
        check.due("ticks without a rule", new ThingPost().tick(), 0);
    }

    private void lookedAt() {
        of("one that is HELD, and was not HELD when it was looked at on the TICK before, ACTS:");
        ThingPost x = Check.withThings(1);
        when(x, "t0.f0=1");
        check.due("not held", x.tick(), 0);
        x.word(0, 1, 0, 1, NO, NO);
        check.due("held", x.tick(), 1);
        check.due("held still", x.tick(), 0);
        x.word(0, 2, 0, 2, NO, NO);
        x.word(0, 3, 0, 1, NO, NO);
        check.due("held again, though not between two ticks", x.tick(), 0);
        x.word(0, 4, 0, 2, NO, NO);
        check.due("not held", x.tick(), 0);
        x.word(0, 5, 0, 1, NO, NO);
        check.due("held again", x.tick(), 1);
        when(x, "t0.f0=1");
        check.due("one told while it is held: not looked at before", x.tick(), 1);
        check.due("its act", x.acts(2, 0), 1);
        check.due("acts", x.count(4), 3);
    }

    private void wishesAndOrders() {
        of("it WISHES (by its OWNER, whatever LEAST and MOST are)");
        ThingPost x = Check.withThings(2);
        Check.rule(x, 5, "when not t0.f0=1 : wish t1.f2=-999999");
        x.rank(5, 0, 1);
        check.due("it acts", x.tick(), 1);
        check.due("wished", x.wished(1, 2, 0), -999999);
        check.due("wished by", x.wished(1, 2, 1), 5);
        check.due("by hand it could not be", x.wish(5, 1, 2, 1), false);
        check.due("it can be taken back", x.wish(5, 1, 2, NO), true);

        of("or gives an ORDER (until 50 TICKS behind NOW, 3999 at most).");
        x = Check.withThings(2);
        Check.ticks(x, 7);
        Check.rule(x, 5, "when not t0.f0=1 : order t1 60");
        check.due("it acts", x.tick(), 1);
        check.due("to", x.orders(0, 0), 1);
        check.due("number", x.orders(0, 1), 60);
        check.due("until", x.orders(0, 2), 58);
        check.due("waits", x.orders(0, 3), 0);
        check.due("by the act", x.acts(0, 4), 0);
    }

    /** So late a TICK comes behind the 512th call alone; the class keeps to the document there, too. */
    private void fiftyTicks() {
        of("(until 50 TICKS behind NOW, 3999 at most)");
        ThingPost x = Check.withThings(1);
        Check.ticks(x, 3947);
        for (int now = 3948; now <= 3951; now++) {
            Check.rule(x, 0, "when not t0.f0=1 : order t0 1");
            check.due("it acts on " + now, x.tick(), 1);
            check.due("until, on " + now, x.orders(now - 3948, 2), Math.min(3999, now + 50));
        }
    }

    private void mostActs() {
        of("300 ACTS and 200 ORDERS at most: an ACT beyond either is not done, nor noted.");
        ThingPost x = Check.withThings(2);
        for (int i = 0; i < 18; i++) {
            Check.rule(x, 0, "when age t0=1:wish t0.f" + i % 3 + "=" + i);
        }
        Check.rule(x, 0, "when age t0=1:wish t1.f0=1");
        Check.rule(x, 0, "when age t0=1:wish t1.f1=2");
        for (int round = 1; round <= 15; round++) {
            // On the first round one RULE does not act: 299 ACTS in all.
            x.force(19, round > 1);
            x.word(0, round, 0, 1, 1, 1);
            check.due("acted in round " + round, x.tick(), round > 1 ? 20 : 19);
            x.tick();
        }
        check.due("acts", x.count(4), 299);
        for (int field = 0; field < 3; field++) {
            check.due("taken back", x.wish(0, 0, field, NO), true);
        }
        x.word(0, 16, 0, 1, 1, 1);
        check.due("twenty act", x.tick(), 20);
        check.due("acts", x.count(4), 300);
        check.due("the last act: the rule", x.acts(299, 0), 0);
        check.due("the 300th is done", x.wished(0, 0, 0), 0);
        check.due("the 301st is not", x.wished(0, 1, 0), NO);
        check.due("the 302nd is not", x.wished(0, 2, 0), NO);
        check.due("act 300", x.acts(300, 0), -2);
    }

    private void mostOrders() {
        of("200 ORDERS at most: an ACT beyond either is not done, nor noted.");
        ThingPost x = Check.withThings(2);
        Check.rule(x, 0, "when age t0=1:order t1 5");
        Check.rule(x, 0, "when age t0=1:order t1 6");
        Check.rule(x, 0, "when age t0=1:wish t1.f0=5");
        for (int i = 0; i < 199; i++) {
            check.due("order " + i, x.order(1, 1, 3999), i);
        }
        x.word(0, 1, 0, 1, 1, 1);
        check.due("three act", x.tick(), 3);
        check.due("orders", x.count(5), 200);
        check.due("the last order", x.orders(199, 1), 5);
        check.due("acts", x.count(4), 2);
        check.due("the first by its order", x.acts(0, 4), 199);
        check.due("the second is the wish", x.acts(1, 0), 2);
        check.due("the wish is done", x.wished(1, 0, 0), 5);
        check.due("no third", x.acts(2, 0), -2);
    }

    private void led() {
        of("LED by: of the WORDS of THINGS named in when that CAME by then the latest one told (NONE: none).");
        ThingPost x = Check.withThings(4);
        Check.rule(x, 0, "when not t0.f0=9 and not age t1=9 unless t2.f0=9 : order t3 1");
        x.word(2, 1, 0, 1, 1, 1);
        x.word(3, 1, 0, 1, 1, 1);
        check.due("it acts", x.tick(), 1);
        check.due("words of things in unless and in the act alone", x.acts(0, 2), -1);
        x.word(0, 5, 1, 1, 1, 1);
        x.word(1, 5, 1, 1, 1, 1);
        x.word(0, 4, 1, 1, 1, 1);
        x.word(2, 5, 1, 1, 1, 1);
        x.forget(0);
        x.force(0, false);
        x.force(0, true);
        check.due("it acts again", x.tick(), 1);
        check.due("the latest told, not of the greatest count", x.acts(1, 2), 4);
        x.word(1, 6, 2, 1, 1, 1);
        check.due("a word that was told behind the act", x.acts(1, 2), 4);
        check.due("as it was", x.acts(0, 2), -1);
    }

    private void would() {
        of("WOULD: whether the RULE is HELD at the ACT's TICK as KNOWN NOW.");
        ThingPost x = Check.withThings(1);
        when(x, "not t0.f0=9");
        Check.ticks(x, 1);
        check.due("it would", x.acts(0, 3), 1);
        Check.ticks(x, 5);
        x.word(0, 1, 2, 9, NO, NO);
        check.due("the word's span begins behind it", x.acts(0, 3), 1);
        x.word(0, 2, 1, 9, NO, NO);
        check.due("known now: it would not", x.acts(0, 3), 0);
        x.forget(0);
        check.due("forgotten: it would", x.acts(0, 3), 1);
        x.force(0, false);
        check.due("out of force: held all the same", x.acts(0, 3), 1);
    }

    private void outOfForce() {
        of("A RULE can be put out of force, and in again (it was not HELD on the TICK before, then).");
        ThingPost x = Check.withThings(1);
        when(x, "not t0.f0=9");
        check.due("it acts", x.tick(), 1);
        x.force(0, false);
        check.due("out of force", x.tick(), 0);
        x.force(0, true);
        check.due("in force again: it acts", x.tick(), 1);
        check.due("held on the tick before", x.tick(), 0);
        x.force(0, false);
        x.force(0, true);
        check.due("out and in between two ticks: it acts", x.tick(), 1);
        x.force(0, true);
        check.due("in force already: nothing changed", x.tick(), 0);
    }
}
