/** Promises 27 to 29: two that pull, rings of rules, and what shows them. */
public final class FinderTest {
    private static final int NO = Check.NOTHING;
    private static final Check check = new Check();

    public static void main(String[] args) {
        notPlain();
        pulls();
        numbersOfStarts();
        spentPulls();
        rings();
        ringsBehindAStart();
        ringOfAFieldThatNoRefNames();
        longRings();
        spentRings();
        check.end();
    }

    private static ThingPost ready() {
        ThingPost x = new ThingPost();
        for (int field = 0; field < 3; field++) {
            x.field(0, field, 0, 9, 0);
        }
        for (int i = 0; i < 6; i++) {
            x.thing(0, 0);
        }
        return x;
    }

    private static void tell(ThingPost x, String... texts) {
        for (String text : texts) {
            int rule = Check.rule(x, 0, text);
            if (rule < 0) {
                check.due("rule: " + text, rule, 0);
            }
        }
    }

    private static void shown(ThingPost x, int k, int thing, int field, int number) {
        check.due("shown(" + k + ", 0)", x.shown(k, 0), thing);
        check.due("shown(" + k + ", 1)", x.shown(k, 1), field);
        check.due("shown(" + k + ", 2)", x.shown(k, 2), number);
    }

    private static void nothingShown(ThingPost x) {
        for (int what = -1; what <= 4; what++) {
            check.due("shown(0, " + what + ") of nothing", x.shown(0, what), NO);
        }
    }

    private static void notPlain() {
        ThingPost x = ready();
        nothingShown(x);
        check.due("pulls of none", x.pulls(0, 1), -1);
        check.due("ring of none", x.ring(), 0);
        tell(x, "when t0.f0=1 : wish t1.f0=1", "when t0.f0=1 : wish t1.f0=2",
            "when max t0.f0 5=1 : wish t1.f0=3", "when t0.f0=1 unless min t0.f0 5=1 : wish t1.f0=3",
            "when age t0=1 : wish t1.f0=3", "when t0.f0=1 for 1 : wish t1.f0=3",
            "when t0.f0=1 : order t1 3", "when t0.f0=1 unless t0.f1=2 : wish t1.f0=3");
        check.due("both one", x.pulls(0, 0), -1);
        check.due("plain ones", x.pulls(0, 1), 1);
        for (int i = 2; i <= 6; i++) {
            check.due("pulls(0, " + i + ")", x.pulls(0, i), -1);
            check.due("pulls(" + i + ", 0)", x.pulls(i, 0), -1);
        }
        check.due("with unless", x.pulls(0, 7), 1);
        check.due("pulls(0, 8)", x.pulls(0, 8), -1);
        check.due("pulls(-1, 0)", x.pulls(-1, 0), -1);
        shown(x, 0, 0, 0, 1);
        shown(x, 1, 0, 1, 0);
        check.due("shown(2, 0)", x.shown(2, 0), NO);
        check.due("shown(-1, 0)", x.shown(-1, 0), NO);
        check.due("shown(0, 3) of two that pull", x.shown(0, 3), NO);
        check.due("shown(0, 4)", x.shown(0, 4), NO);
        check.due("shown(0, -1)", x.shown(0, -1), NO);
    }

    private static void pulls() {
        ThingPost x = ready();
        tell(x, "when t2.f1>3 : wish t1.f0=1", "when t0.f2<5 unless t2.f1>=5 : wish t1.f0=2",
            "when t2.f1<=3 : wish t1.f0=3", "when t2.f1<=3 : wish t1.f0=1",
            "when t2.f1<=3 : wish t1.f1=3", "when t2.f1<=3 : wish t0.f0=3");
        check.due("two pull", x.pulls(0, 1), 1);
        shown(x, 0, 0, 2, 0);
        shown(x, 1, 2, 1, 4);
        check.due("shown(2, 0)", x.shown(2, 0), NO);
        check.due("the other way", x.pulls(1, 0), 1);
        shown(x, 1, 2, 1, 4);
        x.pulls(0, 0);
        shown(x, 1, 2, 1, 4);
        check.due("never both", x.pulls(0, 2), 0);
        nothingShown(x);
        x.force(0, false);
        x.force(1, false);
        check.due("out of force, too", x.pulls(0, 1), 1);
        x.field(0, 1, 0, 3, 0);
        shown(x, 1, 2, 1, 4);
        check.due("not as far as the numbers go", x.pulls(0, 1), 0);
        nothingShown(x);
        check.due("unlike numbers", x.pulls(2, 3), 1);
        shown(x, 0, 2, 1, 0);
        check.due("like numbers", x.pulls(0, 3), 0);
        check.due("other fields", x.pulls(2, 4), 0);
        check.due("other things", x.pulls(2, 5), 0);
        nothingShown(x);
    }

    private static void numbersOfStarts() {
        ThingPost x = ready();
        // Numbers 0, 9 and those near 4 and 6: 7 is one, 8 is none.
        tell(x, "when t0.f0>7 : wish t1.f0=1", "when t0.f0<9 : wish t1.f0=2",
            "when not t0.f0<=4 and t0.f0<9 : wish t1.f0=1", "when not t0.f0=6 and t0.f0<9 : wish t1.f0=2",
            "when t0.f0=20 : wish t1.f0=1", "when t0.f0>5 : wish t1.f0=2",
            "when not t0.f0=-20 : wish t1.f0=9");
        check.due("8 is between", x.pulls(0, 1), 1);
        shown(x, 0, 0, 0, 8);
        check.due("5 is one more", x.pulls(2, 3), 1);
        shown(x, 0, 0, 0, 5);
        check.due("20 is too far", x.pulls(4, 5), 0);
        x.field(0, 0, 0, 20, 0);
        check.due("20 is not too far", x.pulls(4, 5), 1);
        shown(x, 0, 0, 0, 20);
        x.field(0, 0, 0, 9, 0);
        check.due("the first is the least", x.pulls(6, 3), 1);
        shown(x, 0, 0, 0, 0);
        x.field(0, 0, 7, 7, 0);
        check.due("one number", x.pulls(2, 3), 1);
        shown(x, 0, 0, 0, 7);
        x.field(0, 0, -5, 100, 0);
        check.due("numbers of all rules looked at", x.pulls(6, 3), 1);
        shown(x, 0, 0, 0, -5);
    }

    private static void spentPulls() {
        ThingPost x = ready();
        tell(x, "when t0.f0=1or t0.f1=1or t0.f2=1or t1.f0=1or t1.f1=1or t1.f2=1 : wish t5.f0=1",
            "when t2.f0=1or t2.f1=1or t2.f2=1or t3.f0=1or t3.f1=1or t3.f2=1 : wish t5.f0=2",
            "when t4.f0=1 or t0.f0=1 : wish t5.f0=1");
        tell(x, "when t0.f0=5 : wish t1.f0=1", "when t0.f0=5 : wish t1.f0=2");
        check.due("two pull", x.pulls(3, 4), 1);
        // Twelve refs, each with 0, 1, 2 and 9: 16777216 rows.
        check.due("too many rows", x.pulls(0, 1), -2);
        shown(x, 0, 0, 0, 5);
        for (int field = 0; field < 3; field++) {
            x.field(0, field, 1, 1, 0);
        }
        check.due("one row", x.pulls(0, 1), 1);
        check.due("shown(11, 0)", x.shown(11, 0), 3);
        check.due("shown(12, 0)", x.shown(12, 0), NO);
        tell(x, "when t0.f0=1or t0.f1=1or t0.f2=1or t1.f0=1or t1.f1=1or t1.f2=1 or t4.f0=1 : wish t5.f0=1");
        check.due("thirteen refs", x.pulls(5, 1), -2);
        check.due("thirteen refs, but like wishes", x.pulls(5, 0), 0);
        mostRows();
    }

    private static void mostRows() {
        // 5 * 5 * 5 * 5 * 32 = 20000 rows stand, 20001 and more do not.
        ThingPost x = new ThingPost();
        x.field(0, 0, 0, 4, 0);
        x.field(1, 0, 0, 31, 0);
        for (int i = 0; i < 4; i++) {
            x.thing(0, 0);
        }
        x.thing(1, 0);
        tell(x, "when t0.f0=1 and t0.f0=3 or t1.f0=1 and t1.f0=3 or t2.f0=1 and t2.f0=3 or t3.f0=1 and t3.f0=3 : wish t4.f0=1",
            "when t4.f0=2or t4.f0=5or t4.f0=8or t4.f0=11or t4.f0=14or t4.f0=17or t4.f0=20or t4.f0=23or t4.f0=26or t4.f0=29 : wish t4.f0=2");
        check.due("20000 rows", x.pulls(0, 1), 0);
        x.field(1, 0, 0, 40, 0);
        tell(x, "when t4.f0=2or t4.f0=5or t4.f0=8or t4.f0=11or t4.f0=14or t4.f0=17or t4.f0=20or t4.f0=23or t4.f0=26or t4.f0=29or t4.f0=40:wish t4.f0=2");
        check.due("20000 rows again", x.pulls(0, 1), 0);
        check.due("20625 rows", x.pulls(0, 2), -2);
    }

    private static void rings() {
        ThingPost x = ready();
        tell(x, "when t0.f0=1 : wish t1.f0=1", "when t1.f0=1 : wish t0.f0=0");
        check.due("no ring", x.ring(), 0);
        nothingShown(x);
        tell(x, "when t0.f0=0 : wish t1.f0=0", "when t1.f0=0 : wish t0.f0=1");
        // From 0, 0: t0.f0 = 1 by rule 3, t1.f0 = 1 by rule 0, t0.f0 = 0 by rule 1, t1.f0 = 0 by rule 2.
        check.due("a ring", x.ring(), 4);
        shown(x, 0, 0, 0, 0);
        shown(x, 1, 1, 0, 0);
        int[] rules = {3, 0, 1, 2};
        for (int k = 0; k < 4; k++) {
            check.due("rule " + k + " of the ring", x.shown(k, 3), rules[k]);
        }
        check.due("shown(4, 3)", x.shown(4, 3), NO);
        check.due("shown(-1, 3)", x.shown(-1, 3), NO);
        check.due("shown(2, 0)", x.shown(2, 0), NO);
        x.pulls(0, 0);
        check.due("still shown", x.shown(0, 3), 3);
        x.force(2, false);
        check.due("still shown", x.shown(0, 3), 3);
        check.due("out of force: none", x.ring(), 0);
        nothingShown(x);
        x.force(2, true);
        x.ring();
        check.due("pulls that tells 0", x.pulls(0, 1), 0);
        nothingShown(x);
    }

    private static void ringsBehindAStart() {
        ThingPost x = ready();
        tell(x, "when t0.f0=9 : wish t0.f0=5", "when t0.f0=5 : wish t0.f0=6", "when t0.f0=6 : wish t0.f0=5",
            "when t0.f1>3 unless t0.f2=0 : wish t0.f0=9");
        // The first START that comes to 5 or 6 has t0.f0 = 0, t0.f1 = 4 and t0.f2 = 1.
        check.due("a ring behind its start", x.ring(), 2);
        shown(x, 0, 0, 0, 0);
        shown(x, 1, 0, 1, 4);
        shown(x, 2, 0, 2, 1);
        check.due("first of the ring", x.shown(0, 3), 1);
        check.due("second of the ring", x.shown(1, 3), 2);
    }

    private static void ringOfAFieldThatNoRefNames() {
        ThingPost x = ready();
        tell(x, "when t0.f0=0 : wish t1.f0=0", "when t0.f0=0 : wish t1.f0=1");
        check.due("two that pull are a ring", x.ring(), 2);
        check.due("first", x.shown(0, 3), 1);
        check.due("second", x.shown(1, 3), 0);
        check.due("the ref alone is shown", x.shown(1, 0), NO);
        ThingPost y = ready();
        tell(y, "when t0.f0=0 : wish t1.f0=700");
        check.due("acts once", y.ring(), 0);
    }

    private static void longRings() {
        ThingPost y = ready();
        tell(y, "when t0.f0=1 and t0.f1=0 : wish t0.f1=1", "when t0.f0=2 and t0.f1=1 : wish t0.f1=2",
            "when t0.f0=1 and t0.f1=2 : wish t0.f1=3", "when t0.f0=2 and t0.f1=3 : wish t0.f1=0",
            "when t0.f0=1 : wish t0.f0=2", "when t0.f0=2 : wish t0.f0=1");
        // From 0, 0 nothing; 1, 0 is the first START that moves: f1 1, f0 2, f1 2, f0 1, f1 3, f0 2, f1 0, f0 1.
        check.due("rules act twice", y.ring(), 8);
        int[] rules = {0, 4, 1, 5, 2, 4, 3, 5};
        for (int k = 0; k < 8; k++) {
            check.due("rule " + k + " of the long ring", y.shown(k, 3), rules[k]);
        }
        shown(y, 0, 0, 0, 1);
        shown(y, 1, 0, 1, 0);
    }

    /**
     * x (t0.f0) runs from 0 to 8 and back, y (t1.f0) goes one on at each end of it, from 0 to 4 and back, z (t2.f0)
     * at each end of y; d (t3.f0) tells the way of x and follows the parity of y and z: 198 acts in all.
     */
    private static void spentRings() {
        ThingPost x = new ThingPost();
        x.field(0, 0, 0, 8, 0);
        x.field(1, 0, 0, 4, 0);
        x.field(2, 0, 0, 3, 0);
        x.field(3, 0, 1, 1, 0);
        for (int i = 0; i < 5; i++) {
            x.thing(i, 0);
        }
        String yOdd = "[t1.f0=1or t1.f0=3]";
        String zOdd = "[t2.f0=1or t2.f0=3]";
        String odd = yOdd + "and not" + zOdd + "or not" + yOdd + "and" + zOdd;
        String end = "[t3.f0=0and t0.f0=8or t3.f0=1and t0.f0=0]";
        tell(x, "when " + odd + ":wish t3.f0=1", "when not[" + odd + "]:wish t3.f0=0");
        // One act more, of a field that no ref names.
        tell(x, "when t0.f0>-9:wish t4.f0=1");
        for (int i = 0; i <= 8; i++) {
            tell(x, "when t3.f0=0 and t0.f0=" + (i - 1) + " or t3.f0=1 and t0.f0=" + (i + 1) + ":wish t0.f0=" + i);
        }
        for (int i = 0; i <= 4; i++) {
            tell(x, "when" + end + "and[not" + zOdd + "and t1.f0=" + (i - 1) + " or" + zOdd + "and t1.f0=" + (i + 1)
                + "]:wish t1.f0=" + i);
        }
        for (int i = 1; i <= 3; i++) {
            tell(x, "when" + end + "and t2.f0=" + (i - 1) + ":wish t2.f0=" + i);
        }
        check.due("twenty rules", x.count(3), 20);
        check.due("200 acts from the first start, none then", x.ring(), 0);
        x.field(0, 0, -1, 8, 0);
        check.due("201 acts from the first start", x.ring(), -2);
        nothingShown(x);
        x.force(2, false);
        check.due("200 acts again", x.ring(), 0);
        manyStarts();
    }

    private static void lastStart() {
        ThingPost x = ready();
        tell(x, "when t0.f2=9 and t5.f2=9 : wish t4.f2=1", "when t0.f2=9 and t5.f2=9 : wish t4.f2=2");
        check.due("from the last start alone", x.ring(), 2);
        shown(x, 0, 0, 2, 9);
        shown(x, 1, 5, 2, 9);
        check.due("a pull at the last start alone", x.pulls(0, 1), 1);
        shown(x, 1, 5, 2, 9);
    }

    private static void manyStarts() {
        ThingPost y = ready();
        tell(y, "when t0.f0=5 or t0.f1=5 or t0.f2=5 or t1.f0=1 or t1.f1=1 : wish t5.f0=1");
        check.due("5 * 5 * 5 * 4 * 4 = 2000 starts", y.ring(), 0);
        ThingPost z = new ThingPost();
        for (int field = 0; field < 3; field++) {
            z.field(0, field, 0, field == 2 ? 2 : 100, 0);
        }
        z.thing(0, 0);
        z.thing(1, 0);
        tell(z, "when t0.f0=9or t0.f0=19or t0.f0=29or t0.f0=39or t0.f0=49or t0.f0=59or t0.f0=69or t0.f2=1 : wish t1.f0=1",
            "when t0.f1=9or t0.f1=19or t0.f1=29or t0.f1=39or t0.f1=49or t0.f1=59or t0.f1=69or t0.f1=79or t0.f1=89 : wish t1.f0=1");
        check.due("23 * 29 * 3 = 2001 starts", z.ring(), -2);
        z.field(0, 2, 0, 1, 0);
        check.due("23 * 29 * 2 = 1334 starts", z.ring(), 0);
        lastStart();
        ThingPost x = ready();
        tell(x, "when t0.f0=5 or t0.f1=5 or t0.f2=5 or t1.f0=5 : wish t5.f0=1",
            "when t1.f1=1 : wish t5.f0=1");
        // 5 * 5 * 5 * 5 * 4 = 2500.
        check.due("2500 starts", x.ring(), -2);
        x.force(1, false);
        check.due("625 starts", x.ring(), 0);
        x.field(0, 1, 3, 3, 0);
        x.force(1, true);
        check.due("125 starts", x.ring(), 0);
    }
}
