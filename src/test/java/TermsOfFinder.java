/** The edges that part IV of the terms names: PLAIN RULES, their NUMBERS and STARTS, TWO that PULL, and RINGS. */
final class TermsOfFinder {
    private static final int NO = Check.NOTHING;
    private static final String PART = "Terms IV";
    private final Check check;

    TermsOfFinder(Check check) {
        this.check = check;
    }

    void run() {
        plain();
        leastAndMost();
        numbersNear();
        inAllRules();
        refsInOrder();
        rowsInOrder();
        mostRefs();
        mostRows();
        wishesThatPull();
        startsThatPull();
        inForce();
        leastRule();
        noNumberAtFirst();
        asOnce();
        rulesOfARing();
        mostActs();
        ringWithTheLastAct();
        mostStarts();
        spentAsSoon();
        firstStart();
    }

    private void of(String words) {
        check.of(PART, words);
    }

    /** Six THINGS, each FIELD from 0 to 9. */
    private static ThingPost ready() {
        ThingPost x = new ThingPost();
        for (int field = 0; field < 3; field++) {
            x.field(0, field, 0, 9, 0);
        }
        for (int i = 0; i < 6; i++) {
            x.thing(0, 0);
        }
        return x;
    }

    private void tell(ThingPost x, String... texts) {
        for (String text : texts) {
            int due = x.count(3);
            check.due("rule: " + text, Check.rule(x, 0, text), due);
        }
    }

    private void shown(ThingPost x, int k, int thing, int field, int number) {
        check.due("shown(" + k + ", 0)", x.shown(k, 0), thing);
        check.due("shown(" + k + ", 1)", x.shown(k, 1), field);
        check.due("shown(" + k + ", 2)", x.shown(k, 2), number);
    }

    private void plain() {
        of("PLAIN RULES: in force or not, with a wish, without max, min, age; without for.");
        ThingPost x = ready();
        tell(x, "when t0.f0=1 : wish t1.f0=1", "when t0.f0=1 unless t0.f1=1 : wish t1.f0=2",
            "when t0.f0=1 : order t1 3", "when max t0.f0 1=1 : wish t1.f0=3", "when min t0.f0 1=1 : wish t1.f0=3",
            "when age t0=1 : wish t1.f0=3", "when t0.f0=1 for 1 : wish t1.f0=3",
            "when t0.f0=1 unless max t0.f0 1=1 : wish t1.f0=3", "when t0.f0=1 unless min t0.f0 1=1 : wish t1.f0=3",
            "when t0.f0=1 unless not[age t0=1] : wish t1.f0=3");
        check.due("plain ones", x.pulls(0, 1), 1);
        for (int i = 2; i < 10; i++) {
            check.due("pulls(0, " + i + ")", x.pulls(0, i), -1);
            check.due("pulls(" + i + ", 1)", x.pulls(i, 1), -1);
        }
        x.force(0, false);
        x.force(1, false);
        check.due("plain ones, out of force", x.pulls(0, 1), 1);
    }

    /** Tells RULES that make so many rows of the NUMBERS of things 3 and 4. */
    private void rows(ThingPost x, int... sizes) {
        // 0 to 9 with 9: 0, 8, 9; with 1: 0, 1, 2, 9; with 5: 0, 4, 5, 6, 9.
        String[] facts = {"", "", "=99", "=9", "=1", "=5"};
        for (int i = 0; i < sizes.length; i++) {
            tell(x, "when t" + (3 + i / 3) + ".f" + i % 3 + facts[sizes[i]] + ":wish t5.f0=1");
        }
    }

    /** That t0.f0 has n NUMBERS by some RULES: n times the first sizes are 2000 STARTS or fewer, times the second more. */
    private void numbers(int least, int most, int n, int[] few, int[] many, String... rules) {
        for (int[] sizes : new int[][] {few, many}) {
            ThingPost x = new ThingPost();
            x.field(0, 0, least, most, 0);
            x.thing(0, 0);
            for (int field = 0; field < 3; field++) {
                x.field(1, field, 0, 9, 0);
            }
            for (int i = 0; i < 5; i++) {
                x.thing(1, 0);
            }
            tell(x, rules);
            rows(x, sizes);
            check.due(n + " numbers of t0.f0 by " + String.join(", ", rules), x.ring(), sizes == few ? 0 : -2);
        }
    }

    private static final int[] S2500 = {5, 5, 5, 5, 4};
    private static final int[] S2000 = {5, 5, 5, 4, 4};
    private static final int[] S1000 = {5, 5, 5, 4, 2};
    private static final int[] S625 = {5, 5, 5, 5};
    private static final int[] S500 = {5, 5, 5, 4};
    private static final int[] S400 = {5, 5, 4, 4};
    private static final int[] S300 = {5, 5, 4, 3};
    private static final int[] S256 = {4, 4, 4, 4};
    private static final int[] S250 = {5, 5, 5, 2};

    private static String rule(String test) {
        return "when " + test + ":wish t5.f1=1";
    }

    private void leastAndMost() {
        of("Its NUMBERS: of each REF in when and unless the LEAST and MOST of the FIELD,");
        numbers(0, 9, 2, S1000, S2000, rule("t0.f0=99"));
        numbers(7, 7, 1, S2000, S2500, rule("t0.f0=99"));
        numbers(-100000, 100000, 2, S1000, S2000, rule("t0.f0=999999"));
        ThingPost x = ready();
        tell(x, "when t0.f0>7 unless t0.f1<8 : wish t1.f0=1", "when t0.f0>-99 and t0.f1>-99 : wish t1.f0=2");
        check.due("of a ref in unless alone, too", x.pulls(0, 1), 1);
        shown(x, 0, 0, 0, 8);
        shown(x, 1, 0, 1, 8);
    }

    private void numbersNear() {
        of("and each NUMBER told with that REF (in all PLAIN RULES that are looked at), one less, one more, as far as they"
            + " lie from LEAST to MOST.");
        numbers(0, 9, 5, S400, S500, rule("t0.f0=5"));
        numbers(0, 9, 5, S400, S500, rule("t0.f0=2"));
        numbers(0, 9, 4, S500, S625, rule("t0.f0=1"));
        numbers(0, 9, 3, S625, S1000, rule("t0.f0=0"));
        numbers(0, 9, 2, S1000, S2000, rule("t0.f0=-1"));
        numbers(0, 9, 2, S1000, S2000, rule("t0.f0=-2"));
        numbers(0, 9, 5, S400, S500, rule("t0.f0=7"));
        numbers(0, 9, 4, S500, S625, rule("t0.f0=8"));
        numbers(0, 9, 3, S625, S1000, rule("t0.f0=9"));
        numbers(0, 9, 2, S1000, S2000, rule("t0.f0=10"));
        numbers(0, 9, 2, S1000, S2000, rule("t0.f0=11"));
        numbers(0, 9, 6, S300, S400, rule("t0.f0=5 or t0.f0=6"));
        numbers(0, 9, 7, S256, S300, rule("t0.f0=4 or t0.f0=6"));
        numbers(0, 9, 8, S250, S256, rule("t0.f0=3 or t0.f0=6"));
        numbers(0, 9, 8, S250, S256, rule("t0.f0<3 unless not[t0.f0>=6]"));
        numbers(0, 9, 5, S400, S500, rule("t0.f0=5 or t0.f1=2"));
        // As read here: the NUMBER of a wish is none that is told with a REF in when or unless.
        numbers(0, 9, 5, S400, S500, "when t0.f0=5:wish t0.f0=2");
    }

    private void inAllRules() {
        of("(in all PLAIN RULES that are looked at)");
        numbers(0, 9, 8, S250, S256, rule("t0.f0=3"), rule("t0.f0=6"));
        numbers(0, 9, 5, S400, S500, rule("t0.f0=3"), "when max t0.f0 5=6:wish t5.f1=1");
        numbers(0, 9, 5, S400, S500, rule("t0.f0=3"), "when t0.f0=6 for 1:wish t5.f1=1");
        numbers(0, 9, 5, S400, S500, rule("t0.f0=3"), "when t0.f0=6:order t5 1");
        ThingPost x = ready();
        tell(x, "when not t0.f0=0 : wish t1.f0=1", "when not t0.f0=0 and not t0.f0=1 : wish t1.f0=2",
            "when t0.f0=7 : wish t1.f0=3", "when t0.f0>4 and t0.f0<7 or t0.f0=9 : wish t1.f0=4");
        check.due("by these two", x.pulls(0, 1), 1);
        shown(x, 0, 0, 0, 2);
        check.due("by the first and the fourth", x.pulls(0, 3), 1);
        shown(x, 0, 0, 0, 5);
        check.due("by the first and the third", x.pulls(0, 2), 1);
        shown(x, 0, 0, 0, 7);
    }

    private void refsInOrder() {
        of("STARTS: all rows of such numbers of all REFS of the RULES that are looked at (in order of THINGS, then FIELDS)");
        ThingPost x = ready();
        tell(x, "when t2.f0>-9 and t0.f2>-9 and t1.f1>-9 : wish t5.f0=1",
            "when t4.f0>-9 unless t3.f0=3 and t0.f0=3 : wish t5.f0=2", "when t1.f2>-9 : wish t5.f0=2");
        check.due("two pull", x.pulls(0, 1), 1);
        int[][] refs = {{0, 0}, {0, 2}, {1, 1}, {2, 0}, {3, 0}, {4, 0}};
        for (int k = 0; k < refs.length; k++) {
            shown(x, k, refs[k][0], refs[k][1], 0);
        }
        check.due("no ref more", x.shown(6, 0), NO);
        check.due("two pull", x.pulls(2, 0), 1);
        int[][] others = {{0, 2}, {1, 1}, {1, 2}, {2, 0}};
        for (int k = 0; k < others.length; k++) {
            shown(x, k, others[k][0], others[k][1], 0);
        }
        check.due("no ref more", x.shown(4, 0), NO);
    }

    private void rowsInOrder() {
        of("the first REF's least first, the last one's changing fastest;");
        ThingPost x = ready();
        tell(x, "when t1.f0>0 or t0.f1>0 or t0.f0>0 : wish t5.f0=1", "when t0.f0>-9 : wish t5.f0=2",
            "when t1.f0>0 and t0.f1>0 or t0.f0>0 : wish t5.f0=3", "when t0.f0=9 and t0.f1=9 and t1.f0=9 : wish t5.f0=4");
        check.due("the last one's changes first", x.pulls(0, 1), 1);
        shown(x, 0, 0, 0, 0);
        shown(x, 1, 0, 1, 0);
        shown(x, 2, 1, 0, 1);
        check.due("then the one ahead of it", x.pulls(2, 1), 1);
        shown(x, 0, 0, 0, 0);
        shown(x, 1, 0, 1, 1);
        shown(x, 2, 1, 0, 1);
        tell(x, "when t0.f0>0 and t0.f1>-9 and t1.f0>-9 : wish t5.f0=5");
        check.due("as one changes, all behind it are at their least again", x.pulls(4, 1), 1);
        shown(x, 0, 0, 0, 1);
        shown(x, 1, 0, 1, 0);
        shown(x, 2, 1, 0, 0);
        check.due("the last row", x.pulls(3, 1), 1);
        shown(x, 0, 0, 0, 9);
        shown(x, 1, 0, 1, 9);
        shown(x, 2, 1, 0, 9);
    }

    private void mostRefs() {
        of("more than 12 REFS, or more than 20000 rows: SPENT.");
        ThingPost x = new ThingPost();
        for (int i = 0; i < 6; i++) {
            x.thing(0, 0);
        }
        tell(x, "when t0.f0=0or t0.f1=0or t0.f2=0or t1.f0=0or t1.f1=0or t1.f2=0:wish t5.f0=1",
            "when t2.f0=0or t2.f1=0or t2.f2=0or t3.f0=0or t3.f1=0unless t3.f2=1:wish t5.f0=2",
            "when t2.f0=0or t2.f1=0or t2.f2=0or t3.f0=0or t3.f1=0or t3.f2=1unless t4.f0=1:wish t5.f0=3");
        check.due("12 refs", x.pulls(0, 1), 1);
        check.due("the 12th", x.shown(11, 0), 3);
        check.due("13 refs", x.pulls(0, 2), -2);
        check.due("a ring of 13 refs", x.ring(), -2);
        x.force(2, false);
        check.due("a ring of 12 refs", x.ring(), 2);
        ThingPost y = ready();
        for (int field = 0; field < 3; field++) {
            y.field(0, field, 0, 0, 0);
        }
        y.field(1, 2, 0, 1, 0);
        y.thing(1, 0);
        tell(y, "when t0.f0=0and t0.f1=0and t0.f2=0and t1.f0=0and t1.f1=0and t1.f2=0:wish t5.f0=1",
            "when t2.f0=0and t2.f1=0and t2.f2=0and t3.f0=0and t3.f1=0and t6.f2=1:wish t5.f0=2");
        check.due("12 refs, at the last row alone", y.pulls(0, 1), 1);
        shown(y, 10, 3, 1, 0);
        shown(y, 11, 6, 2, 1);
        check.due("a ring of 12 refs, at the last row alone", y.ring(), 2);
        shown(y, 11, 6, 2, 1);
    }

    private void mostRows() {
        of("or more than 20000 rows: SPENT.");
        ThingPost x = new ThingPost();
        x.field(0, 0, 0, 9, 0);
        x.field(1, 0, 0, 39, 0);
        for (int i = 0; i < 4; i++) {
            x.thing(0, 0);
        }
        x.thing(1, 0);
        // 5 * 5 * 5 * 5 rows of the first four, times those of t4.f0: 2, and 3 for each fact apart from the others.
        String four = "when t0.f0=5or t1.f0=5or t2.f0=5or t3.f0=5or t4.f0=";
        StringBuilder ten = new StringBuilder("when t4.f0=5");
        for (int number = 8; number <= 29; number += 3) {
            ten.append("or t4.f0=").append(number);
        }
        tell(x, four + "2:wish t4.f0=1", ten + ":wish t4.f0=2", ten + "or t4.f0=39:wish t4.f0=3");
        check.due("5 * 5 * 5 * 5 * 32 = 20000 rows", x.pulls(0, 1), 1);
        check.due("5 * 5 * 5 * 5 * 33 = 20625 rows", x.pulls(0, 2), -2);
        x.field(1, 0, 0, 38, 0);
        check.due("39 lies beyond, one less is the most", x.pulls(0, 2), 1);
        ThingPost y = new ThingPost();
        for (int i = 0; i < 5; i++) {
            y.field(i, 0, 0, i == 4 ? 99 : 9, 0);
            y.thing(i, 0);
        }
        // 4 * 5 * 7 * 11 * 13 = 20020; the 13 of t4.f0 are 0, 3 to 13, and 99.
        y.field(3, 0, 0, 99, 0);
        tell(y, "when t0.f0=1or t1.f0=5or t2.f0=4or t2.f0=6or t3.f0=4or t3.f0=7or t3.f0=10:wish t4.f0=1",
            "when t4.f0=4or t4.f0=7or t4.f0=10or t4.f0=12:wish t4.f0=2");
        check.due("20020 rows", y.pulls(0, 1), -2);
        y.field(1, 0, 0, 6, 0);
        check.due("16016 rows", y.pulls(0, 1), 1);
    }

    private void wishesThatPull() {
        of("TWO PULL: both PLAIN, with wishes of one FIELD for unlike numbers,");
        ThingPost x = ready();
        tell(x, "when t0.f0>-9 : wish t1.f0=1", "when t0.f0>-9 : wish t1.f0=2", "when t0.f0>-9 : wish t1.f0=1",
            "when t0.f0>-9 : wish t1.f1=2", "when t0.f0>-9 : wish t2.f0=2", "when t0.f0>-9 : order t1 2");
        check.due("unlike numbers", x.pulls(0, 1), 1);
        check.due("like numbers", x.pulls(0, 2), 0);
        check.due("of another field", x.pulls(0, 3), 0);
        check.due("of another thing", x.pulls(0, 4), 0);
        check.due("an order", x.pulls(0, 5), -1);
    }

    private void startsThatPull() {
        of("and a START at which both hold (when is true, unless is not): the first.");
        ThingPost x = ready();
        tell(x, "when t0.f0>3 : wish t1.f0=1", "when t0.f0<=3 : wish t1.f0=2", "when t0.f0<=4 : wish t1.f0=2",
            "when t0.f0<=5 unless t0.f0=4 : wish t1.f0=2", "when t0.f0=4 unless t0.f0>3 : wish t1.f0=2");
        check.due("never both", x.pulls(0, 1), 0);
        check.due("both at 4", x.pulls(0, 2), 1);
        shown(x, 0, 0, 0, 4);
        check.due("both at 5 alone", x.pulls(0, 3), 1);
        shown(x, 0, 0, 0, 5);
        check.due("both whens, but an unless", x.pulls(0, 4), 0);
        check.due("both whens, but an unless, the other way", x.pulls(4, 0), 0);
        tell(x, "when t0.f0>6 : wish t1.f0=3");
        check.due("the first of several", x.pulls(0, 5), 1);
        shown(x, 0, 0, 0, 7);
    }

    private void inForce() {
        of("A RING: of all PLAIN RULES in force, from a START:");
        ThingPost x = ready();
        check.due("no rules", x.ring(), 0);
        tell(x, "when t0.f0=1 : wish t0.f0=2", "when t0.f0=2 : wish t0.f0=1");
        check.due("two rules", x.ring(), 2);
        x.force(0, false);
        check.due("one is out of force", x.ring(), 0);
        x.force(0, true);
        x.force(1, false);
        tell(x, "when t0.f0=2 for 1 : wish t0.f0=1", "when max t0.f0 1=2 : wish t0.f0=1", "when t0.f0=2 : order t0 1");
        check.due("the others are not plain", x.ring(), 0);
        x.force(1, true);
        check.due("two rules again", x.ring(), 2);
    }

    private void leastRule() {
        of("the least RULE that holds (when true, unless not) and whose wish is of a FIELD that has not that number sets it");
        ThingPost x = ready();
        tell(x, "when t0.f0=0 : wish t0.f0=0", "when t0.f0=0 unless t0.f1=0 : wish t0.f0=9",
            "when t0.f0=0 : wish t0.f0=4", "when t0.f0=0 : wish t0.f0=5", "when t0.f0=4 : wish t0.f0=0");
        // At 0 rule 0 has nothing to set, rule 1 has an unless that is true, so rule 2 acts ahead of rule 3.
        check.due("a ring", x.ring(), 2);
        check.due("first", x.shown(0, 3), 2);
        check.due("second", x.shown(1, 3), 4);
        x.force(2, false);
        check.due("rule 3 acts, and 5 leads nowhere", x.ring(), 0);
    }

    private void noNumberAtFirst() {
        of("(a FIELD that no REF names has no number at first);");
        ThingPost x = ready();
        tell(x, "when t0.f0=0 : wish t1.f0=0", "when t0.f0=0 and not t1.f1=5 : wish t1.f1=5",
            "when t1.f1=5 and t0.f0=0 : wish t0.f0=1", "when t0.f0=1 and t1.f1=5 : wish t1.f1=0",
            "when t0.f0=1 and t1.f1=0 : wish t0.f0=0");
        // t1.f0 is set once, ahead of the ring; it is not what it was at the START then.
        check.due("a ring behind it", x.ring(), 4);
        int[] rules = {1, 2, 3, 4};
        for (int k = 0; k < 4; k++) {
            check.due("rule " + k + " of the ring", x.shown(k, 3), rules[k]);
        }
        check.due("shown are the refs alone", x.shown(2, 0), NO);
        ThingPost y = ready();
        tell(y, "when t0.f0=0 : wish t1.f0=0", "when t0.f0=0 : wish t1.f0=1");
        check.due("set to 0, to 1, to 0", y.ring(), 2);
        check.due("first", y.shown(0, 3), 1);
        check.due("second", y.shown(1, 3), 0);
        for (int cell = 0; cell < 18; cell += 17) {
            String ref = "t" + cell / 3 + ".f" + cell % 3;
            ThingPost z = ready();
            tell(z, "when t3.f1=0 : wish " + ref + "=7", "when t3.f1=0 : wish " + ref + "=8");
            check.due("of " + ref, z.ring(), 2);
            check.due("the ref", z.shown(0, 0), 3);
        }
    }

    private void asOnce() {
        of("and so on: until none does, or all numbers (of REFS, and of such FIELDS) are as they were once:");
        ThingPost x = ready();
        tell(x, "when t0.f0=1 : wish t0.f0=2", "when t0.f0=2 : wish t0.f0=3", "when t0.f0=3 : wish t0.f0=3",
            "when t0.f0=9 : wish t0.f0=1");
        check.due("each leads on, the last has what it wishes", x.ring(), 0);
        ThingPost y = ready();
        tell(y, "when t0.f0=1 and t0.f1<1 : wish t0.f1=1", "when t0.f0=1 and t0.f1=1 : wish t0.f0=2",
            "when t0.f0=2 and t0.f1=1 : wish t0.f1=2", "when t0.f0=2 and t0.f1=2 : wish t0.f0=1");
        check.due("one number is as it was, the other is not", y.ring(), 0);
        tell(y, "when t0.f0=1 and t0.f1=2 : wish t0.f1=1");
        check.due("both are", y.ring(), 4);
    }

    private void rulesOfARing() {
        of("that is a RING: the RULES that acted from that time on.");
        ThingPost x = ready();
        tell(x, "when t0.f0=0 : wish t0.f0=5", "when t0.f0=5 : wish t0.f0=6", "when t0.f0=6 : wish t0.f0=7",
            "when t0.f0=7 : wish t0.f0=6");
        check.due("a ring", x.ring(), 2);
        check.due("first of it", x.shown(0, 3), 2);
        check.due("last of it", x.shown(1, 3), 3);
        check.due("no more", x.shown(2, 3), NO);
        shown(x, 0, 0, 0, 0);
    }

    private void mostActs() {
        of("More than 200 ACTS from one START without either (a 201st is not done)");
        // No REF names these two FIELDS: they have no number at first, so that 0 is set, though it is LEAST and MOST.
        String[] more = {"when t0.f0>-9:wish t4.f0=0", "when t0.f0>-9:wish t5.f0=0"};
        ThingPost x = LongWay.ready(0, 0);
        LongWay.tell(x);
        tell(x, more);
        check.due("twenty rules", x.count(3), 20);
        check.due("200 acts, none then", x.ring(), 0);
        x = LongWay.ready(0, 1);
        tell(x, more[0]);
        LongWay.tell(x);
        tell(x, more[1]);
        check.due("201 acts", x.ring(), -2);
        x.force(19, false);
        check.due("200 acts without the last one", x.ring(), 0);
        x.force(19, true);
        x.force(0, false);
        check.due("200 acts without the first one", x.ring(), 0);
        x.force(0, true);
        check.due("201 acts again", x.ring(), -2);
    }

    private void ringWithTheLastAct() {
        of("More than 200 ACTS from one START without either");
        String[] pair = {"when " + LongWay.END + ":wish t4.f0=5", "when " + LongWay.END + ":wish t4.f0=6"};
        ThingPost x = LongWay.ready(1, 0);
        LongWay.tell(x);
        tell(x, pair);
        // 197 ACTS lead to the pair, the 198th sets 5, the 199th 6, and with the 200th it is as behind the 198th.
        check.due("a ring with the 200th act", x.ring(), 2);
        check.due("first of it", x.shown(0, 3), 19);
        check.due("second of it", x.shown(1, 3), 18);
        x = LongWay.ready(0, 0);
        LongWay.tell(x);
        tell(x, pair);
        check.due("a ring with the 201st act", x.ring(), -2);
    }

    private void mostStarts() {
        of("or more than 2000 STARTS: SPENT");
        ThingPost x = ready();
        rows(x, S2000);
        check.due("2000 starts", x.ring(), 0);
        x = ready();
        rows(x, S2500);
        check.due("2500 starts", x.ring(), -2);
        ThingPost y = new ThingPost();
        int[] mosts = {99, 99, 2};
        for (int field = 0; field < 3; field++) {
            y.field(0, field, 0, mosts[field], 0);
        }
        y.thing(0, 0);
        y.thing(0, 0);
        StringBuilder seven = new StringBuilder("when t0.f0=9");
        StringBuilder nine = new StringBuilder("when t0.f2=9or t0.f1=9");
        for (int ten = 1; ten <= 8; ten++) {
            seven.append(ten > 6 ? "" : "or t0.f0=" + ten + "9");
            nine.append("or t0.f1=").append(ten).append('9');
        }
        tell(y, seven + "or t0.f2=1:wish t1.f0=1", nine + ":wish t1.f0=1");
        check.due("23 * 29 * 3 = 2001 starts", y.ring(), -2);
        y.field(0, 2, 0, 1, 0);
        check.due("23 * 29 * 2 starts", y.ring(), 0);
    }

    private void spentAsSoon() {
        of("SPENT (as soon as it comes; STARTS ahead of all).");
        // The first START goes the long way to the pair, from the second one the pair is a ring at once.
        for (int early = 0; early <= 1; early++) {
            ThingPost x = LongWay.ready(0, 0);
            x.field(3, 1, 0, 1, 0);
            String pair = "when " + LongWay.END + " or t3.f1=" + (1 - early);
            tell(x, pair + ":wish t4.f0=5", pair + ":wish t4.f0=6");
            LongWay.tell(x);
            check.due(early == 1 ? "a ring ahead of what spends" : "spent ahead of a ring", x.ring(), early == 1 ? 2 : -2);
        }
        ThingPost y = ready();
        tell(y, "when t0.f0<=1 : wish t5.f0=2", "when t0.f0<=1 : wish t5.f0=3");
        check.due("a ring from the first start", y.ring(), 2);
        rows(y, S625);
        check.due("4 * 625 starts, with a ring from the first one", y.ring(), -2);
    }

    private void firstStart() {
        of("The first START from which one comes.");
        ThingPost x = ready();
        tell(x, "when t0.f0=9 and t0.f1=9 : wish t5.f0=1", "when t0.f0=9 and t0.f1=9 : wish t5.f0=2");
        check.due("the last start", x.ring(), 2);
        shown(x, 0, 0, 0, 9);
        shown(x, 1, 0, 1, 9);
        tell(x, "when t0.f0=0 and t0.f1=8 : wish t5.f0=3", "when t0.f0=0 and t0.f1=8 : wish t5.f0=4");
        check.due("one ahead of it", x.ring(), 2);
        shown(x, 0, 0, 0, 0);
        shown(x, 1, 0, 1, 8);
        check.due("its first rule", x.shown(0, 3), 3);
        ThingPost y = ready();
        tell(y, "when t0.f0=4 : wish t0.f0=5", "when t0.f0=5 : wish t0.f0=4", "when t0.f0=9 : wish t0.f0=4");
        check.due("a ring from 4", y.ring(), 2);
        shown(y, 0, 0, 0, 4);
        y.field(0, 0, 6, 9, 0);
        check.due("a ring behind 9", y.ring(), 2);
        shown(y, 0, 0, 0, 9);
    }
}
