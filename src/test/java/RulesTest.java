/** Promises 14 to 19: the tape, rules and their faults, force, held and acts. */
public final class RulesTest {
    private static final int NO = Check.NOTHING;
    private static final Check check = new Check();

    public static void main(String[] args) {
        tape();
        faults();
        numbersAsTold();
        depth();
        tooManyFacts();
        textsThatStand();
        joints();
        values();
        lasting();
        acting();
        forcing();
        leadAndWould();
        mostRules();
        mostActs();
        mostOrders();
        check.end();
    }

    private static ThingPost two() {
        ThingPost x = new ThingPost();
        x.thing(0, 0);
        x.thing(0, 0);
        return x;
    }

    private static void fault(String text, int place, int why) {
        ThingPost x = two();
        check.due("rule: " + text, Check.rule(x, 0, text), Check.fault(place, why));
        check.due("no rule: " + text, x.count(3), 0);
        check.due("tape empty: " + text, x.count(7), 0);
    }

    private static void stands(String text) {
        ThingPost x = two();
        check.due("rule: " + text, Check.rule(x, 0, text), 0);
        check.due("tape empty: " + text, x.count(7), 0);
    }

    private static void tape() {
        ThingPost x = two();
        for (int i = 1; i <= 10; i++) {
            check.due("feed " + i, x.feed(-1, 0, 0, 0, 0), 20 * i);
        }
        check.due("feed 11", x.feed(0, 0, 0, 0, 0), -1);
        check.due("end 201", x.end(201), -1);
        check.due("end -1", x.end(-1), -1);
        check.due("end 200", x.end(200), 200);
        check.due("end 181", x.end(181), 181);
        check.due("feed onto 181", x.feed(0, 0, 0, 0, 0), -1);
        check.due("tape has 181", x.count(7), 181);
        check.due("end 180", x.end(180), 180);
        check.due("feed onto 180", x.feed(0, 0, 0, 0, 0), 200);
        check.due("no owner 8", x.rule(8), -1);
        check.due("no owner -1", x.rule(-1), -1);
        check.due("nothing happened", x.count(7), 200);
        check.due("byte 255 can't stand", x.rule(7), Check.fault(0, 0));
        check.due("empty then", x.count(7), 0);
        check.due("end 0", x.end(0), 0);
        check.due("end 1 of none", x.end(1), -1);
        check.due("the highest byte first", x.feed(0x77686500, 0, 0, 0, 0), 20);
        check.due("whe can't stand", x.rule(0), Check.fault(0, 0));
        x.feed(0x7768656e, 0x20742077, 0, 0, 0);
        check.due("when t w", x.rule(0), Check.fault(6, 0));
    }

    private static void faults() {
        fault("", 0, 0);
        fault("   ", 3, 0);
        fault("when", 4, 0);
        fault("when  ", 6, 0);
        fault("if t0.f0=1", 0, 0);
        fault(" whent0.f0=1", 1, 0);
        fault("When t0.f0=1", 0, 0);
        fault("when t2.f0=1", 5, 4);
        fault("when t39.f0=1", 5, 4);
        fault("when t40.f0=1", 6, 1);
        fault("when t0.f3=1", 9, 1);
        fault("when t0.f0", 10, 0);
        fault("when t0 .f0=1", 7, 0);
        fault("when t0. f0=1", 8, 0);
        fault("when t0.f 0=1", 9, 0);
        fault("when t0.fx=1", 9, 0);
        fault("when t0.xf0=1", 8, 0);
        fault("when t0.f", 9, 0);
        fault("when t0.", 8, 0);
        fault("when t0", 7, 0);
        fault("when t", 6, 0);
        fault("when t 0.f0=1", 6, 0);
        fault("when tx=1", 5, 0);
        fault("when t=1", 6, 0);
        fault("when age tt0=1", 9, 0);
        fault("when age t0.f0=1", 11, 0);
        fault("when age 0=1", 9, 0);
        fault("when max tx.f0 5=1", 9, 0);
        fault("when max t0.f0=1:", 14, 0);
        fault("when maxt0.f0 5=1", 5, 0);
        fault("when t0.f0=-x", 12, 0);
        fault("when t0.f0=- 1", 12, 0);
        fault("when t0.f0=x", 11, 0);
        fault("when t0.f0==1", 11, 0);
        fault("when t0.f0=<1", 11, 0);
        fault("when t0.f0< =1", 12, 0);
        fault("when t0.f0!1", 10, 0);
        fault("when t0.f0=1 wish", 13, 0);
        fault("when t0.f0=1", 12, 0);
        fault("when t0.f0=1 for", 16, 0);
        fault("when t0.f0=1 for -2", 17, 0);
        fault("when t0.f0=1 for 2 for 2", 19, 0);
        fault("when t0.f0=1 for 2 or t0.f0=2", 19, 0);
        fault("when t0.f0=1 unless", 19, 0);
        fault("when t0.f0=1 unless t0.f0=2 for 2:", 28, 0);
        fault("when t0.f0=1 unless t0.f0=2 unless", 28, 0);
        fault("when [t0.f0=1 : wish t0.f0=1", 14, 0);
        fault("when [t0.f0=1", 13, 0);
        fault("when t0.f0=1] : wish t0.f0=1", 12, 0);
        fault("when [] : wish t0.f0=1", 6, 0);
        fault("when t0.f0=1 and : wish t0.f0=1", 17, 0);
        fault("when or t0.f0=1", 5, 0);
        fault("when t0.f0=1 ort0.f0=1", 13, 0);
        fault("when not", 8, 0);
        fault("when nott0.f0=1", 5, 0);
        fault("when t0.f0=1:", 13, 0);
        fault("when t0.f0=1: wis t0.f0=1", 14, 0);
        fault("when t0.f0=1: wish t0.f0=1 x", 27, 0);
        fault("when t0.f0=1: wish t0.f0<1", 24, 0);
        fault("when t0.f0=1: wish t0 = 1", 21, 0);
        fault("when t0.f0=1: wish t2.f0=1", 19, 4);
        fault("when t0.f0=1: wish max t0.f0=1", 19, 0);
        fault("when t0.f0=1: order t0", 22, 0);
        fault("when t0.f0=1: order t0 0", 23, 1);
        fault("when t0.f0=1: order t0 61", 23, 1);
        fault("when t0.f0=1: order t0.f0 6", 22, 0);
        fault("when t0.f0=1: order t0 6 7", 25, 0);
        fault("when t0.f0=1: order t2 6", 20, 4);
        fault("when t0.f0=1: order t0 6\0", 24, 0);
        fault("when t0.f0=1\t: order t0 6", 12, 0);
    }

    private static void numbersAsTold() {
        fault("when t0.f0=1234567:", 11, 1);
        fault("when t0.f0=-1234567:", 12, 1);
        fault("when t0000000.f0=1", 6, 1);
        fault("when t0.f0000000=1", 9, 1);
        fault("when t0.f0=1 for 61:", 17, 1);
        fault("when t0.f0=1 for 0:", 17, 1);
        fault("when max t0.f0 61=1", 15, 1);
        fault("when max t0.f0 0=1", 15, 1);
        fault("when max t0.f05=1", 13, 1);
        fault("when t99.f0=1", 6, 1);
        fault("when t99x", 6, 1);
        fault("when t3x", 5, 4);
        stands("when t000001.f000002=-999999 for 000060: wish t1.f0 = 999999");
        stands("when max t0.f0 000001>=-0: order t1 000060");
        stands("when max t0.f0 1<=0: order t1 1");
    }

    private static void depth() {
        stands("when not not not not not t0.f0=1 : wish t0.f0=1");
        fault("when not not not not not not t0.f0=1", 25, 2);
        stands("when [[[[[t0.f0=1]]]]] and [not [not [t1.f0=1]]] : wish t0.f0=1");
        fault("when [[[[[[t0.f0=1]]]]]]", 10, 2);
        fault("when [not[not[not t0.f0=1", 14, 2);
        stands("when not not not not not t0.f0=1 and not not not not not t0.f0=2 : wish t0.f0=1");
        stands("when [[[[[t0.f0=1]]]]] unless [[[[[t0.f0=1]]]]] : wish t0.f0=1");
        fault("when [[[[[nott0.f0=1", 10, 0);
        fault("when [[[[[not t0.f0=1", 10, 2);
        fault("when t0.f0=1 [", 13, 0);
    }

    private static String facts(int n, String joint) {
        StringBuilder text = new StringBuilder("when t0.f0=1");
        for (int i = 1; i < n; i++) {
            text.append(joint).append("t0.f0=1");
        }
        return text.toString();
    }

    private static void tooManyFacts() {
        String sixteen = facts(16, "or ");
        stands(sixteen + ":wish t0.f0=1");
        int at = sixteen.length() + 4;
        fault(sixteen + " or t0.f0=1", at, 3);
        fault(sixteen + " or t9.f0=1", at, 3);
        fault(sixteen + " or t99.f0=1", at, 3);
        fault(sixteen + " or tx", at, 0);
        fault(sixteen + " or t", at, 3);
        fault(sixteen + " or max", at, 3);
        fault(sixteen + " or :", at, 0);
        fault(sixteen + " or not t", at + 4, 3);
        fault(sixteen + " or [t", at + 1, 3);
        fault(sixteen + " unless t", sixteen.length() + 8, 3);
    }

    private static void textsThatStand() {
        stands("when t0.f0 > 40 : wish t1.f0 = 7");
        stands("  when  t0.f0>40:wish t1.f0=7  ");
        stands("when[t0.f0>40]for 5unless[t0.f0=3]:wish t1.f0=-7");
        stands("when t0.f0>40and t0.f0<50or not[age t1<5]:order t1 9");
        stands("when max t1.f0 3 >= 20 and [age t1 < 9 or min t1.f0 60 = -5] : wish t1.f1 = -3");
        StringBuilder text = new StringBuilder("when t0.f0=1:wish t0.f0=1");
        while (text.length() < 200) {
            text.append(' ');
        }
        stands(text.toString());
        fault(text.substring(0, 199) + "x", 199, 0);
    }

    /** Whether a test is true, with t0.f0 = 1, t0.f1 = 2 and nothing said else. */
    private static void test(String test, int want) {
        ThingPost x = two();
        x.word(0, 1, 0, 1, 2, NO);
        check.due("rule when " + test, Check.rule(x, 0, "when " + test + ": wish t0.f0=1"), 0);
        check.due("held when " + test, x.held(0, 0, 0), want);
        Check.rule(x, 0, "when t0.f0=1 unless " + test + ": wish t0.f0=1");
        check.due("held unless " + test, x.held(1, 0, 0), 1 - want);
    }

    private static void joints() {
        String yes = "t0.f0=1";
        String no = "t0.f0=2";
        test(yes, 1);
        test(no, 0);
        test("not " + yes, 0);
        test("not " + no, 1);
        test("not not " + yes, 1);
        test(yes + " or " + no + " and " + no, 1);
        test(no + " and " + no + " or " + yes, 1);
        test("[" + yes + " or " + no + "] and " + no, 0);
        test("not " + yes + " or " + yes, 1);
        test("not [" + yes + " or " + yes + "]", 0);
        test("not [" + no + " or [" + no + " and " + yes + "]]", 1);
        test(no + " or " + no + " or " + yes, 1);
        test(yes + " and " + yes + " and " + no, 0);
        test(no + " or " + yes + " and " + yes + " and not " + no, 1);
        test("[[[[" + no + " or " + yes + "] and " + yes + "] or " + no + "] and " + yes + "]", 1);
        test("t0.f1<2", 0);
        test("t0.f1<3", 1);
        test("t0.f1<=2", 1);
        test("t0.f1<=1", 0);
        test("t0.f1>=2", 1);
        test("t0.f1>=3", 0);
        test("t0.f1>2", 0);
        test("t0.f1>1", 1);
        test("t0.f1>-1", 1);
        test("t0.f2>-999999", 0);
        test("t0.f2<=999999", 0);
        test("not t0.f2<=999999", 1);
        test("t1.f0=0", 0);
        test("age t1>=0", 0);
        test("age t0=0", 1);
        test("max t0.f1 1=2", 1);
        test("min t0.f2 60<9", 0);
        test("not min t0.f2 60<9", 1);
        ThingPost x = two();
        x.word(0, 1, 0, NO, NO, 4);
        Check.rule(x, 0, "when max t0.f2 1=4 and min t0.f2 60=4: wish t1.f2=6");
        check.due("max and min of field 2", x.tick(), 0);
        check.due("max and min of field 2, held at 0", x.held(0, 0, 0), 1);
        Check.rule(x, 0, "when min t0.f2 60=4: wish t1.f2=6");
        check.due("min of field 2", x.tick(), 1);
        check.due("wish of field 2", x.wished(1, 2, 0), 6);
    }

    private static void heldFrom(ThingPost x, int rule, int known, int first, int last) {
        for (int t = 0; t < 20; t++) {
            check.due("held(" + rule + ", " + t + ", " + known + ")", x.held(rule, t, known), t >= first && t <= last ? 1 : 0);
        }
    }

    private static void values() {
        ThingPost x = two();
        x.kind(0, 500, 0);
        Check.rule(x, 0, "when max t0.f0 3 = 10 : wish t0.f0=1");
        Check.rule(x, 0, "when max t0.f0 3 = 30 : wish t0.f0=1");
        Check.rule(x, 0, "when min t0.f0 3 = 10 : wish t0.f0=1");
        Check.rule(x, 0, "when min t0.f0 3 = 20 : wish t0.f0=1");
        Check.rule(x, 0, "when age t0 = 2 : wish t0.f0=1");
        Check.rule(x, 0, "when age t0 >= 0 : wish t0.f0=1");
        Check.rule(x, 0, "when t0.f0 = 10 : wish t0.f0=1");
        Check.ticks(x, 10);
        x.word(0, 1, 4, 10, NO, NO);
        x.word(0, 3, 10, 30, NO, NO);
        x.set(0, 10);
        Check.ticks(x, 4);
        x.word(0, 2, 10, 20, NO, 5);
        // The SPANS are 2 to 6, 5 to 10 and 10 alone.
        heldFrom(x, 0, 14, 2, 4);
        heldFrom(x, 1, 14, 5, 12);
        heldFrom(x, 2, 14, 2, 8);
        heldFrom(x, 3, 14, 10, 12);
        heldFrom(x, 3, 13, 20, 20);
        heldFrom(x, 4, 9, 20, 20);
        heldFrom(x, 4, 13, 12, 12);
        heldFrom(x, 5, 14, 10, 20);
        heldFrom(x, 6, 14, 2, 4);
        check.due("age = 2 at 16", x.held(4, 16, 14), 1);
        check.due("age = 2 at 12 as known on 14", x.held(4, 12, 14), 1);
        x.forget(0);
        heldFrom(x, 1, 14, 20, 20);
        heldFrom(x, 5, 14, 10, 20);
        check.due("held rule 7", x.held(7, 0, 0), -1);
        check.due("held rule -1", x.held(-1, 0, 0), -1);
        check.due("held at 4000", x.held(0, 4000, 0), -1);
        check.due("held known 4000", x.held(0, 0, 4000), -1);
        check.due("held at -1", x.held(0, -1, 0), -1);
        check.due("held known -1", x.held(0, 0, -1), -1);
    }

    private static void lasting() {
        ThingPost x = two();
        Check.ticks(x, 3);
        Check.rule(x, 0, "when t0.f0=1 for 3 unless t0.f1=1 : wish t0.f0=1");
        Check.rule(x, 0, "when not t0.f0=1 for 3 : wish t0.f0=1");
        x.word(0, 1, 0, 1, NO, NO);
        check.due("not below the tick on which it was told", x.held(0, 4, 3), 0);
        check.due("three ticks", x.held(0, 5, 3), 1);
        check.due("one tick ahead", x.held(0, 2, 3), 0);
        check.due("not as known on 2", x.held(0, 5, 2), 0);
        check.due("without a word", x.held(1, 5, 2), 1);
        check.due("without a word, not yet", x.held(1, 4, 2), 0);
        check.due("tick 4", x.tick(), 0);
        check.due("tick 5", x.tick(), 1);
        check.due("tick 6", x.tick(), 0);
        x.word(0, 2, 6, 1, 1, NO);
        check.due("unless at the last alone", x.held(0, 6, 6), 0);
        check.due("unless not at 5", x.held(0, 5, 6), 1);
        x.word(0, 3, 7, 2, NO, NO);
        check.due("broken", x.held(0, 7, 7), 0);
    }

    private static void acting() {
        ThingPost x = two();
        Check.rule(x, 3, "when t0.f0>5 : wish t1.f0 = 700");
        Check.rule(x, 0, "when t0.f0>5 : order t1 9");
        check.due("tick, nothing said", x.tick(), 0);
        x.word(0, 1, 1, 6, NO, NO);
        check.due("no act without a tick", x.count(4), 0);
        check.due("tick, two act", x.tick(), 2);
        check.due("tick, still held", x.tick(), 0);
        check.due("acts", x.count(4), 2);
        check.due("act 0 rule", x.acts(0, 0), 0);
        check.due("act 0 tick", x.acts(0, 1), 2);
        check.due("act 0 word", x.acts(0, 2), 0);
        check.due("act 0 would", x.acts(0, 3), 1);
        check.due("act 0 order", x.acts(0, 4), -1);
        check.due("act 1 rule", x.acts(1, 0), 1);
        check.due("act 1 order", x.acts(1, 4), 0);
        check.due("act 0 what 5", x.acts(0, 5), -2);
        check.due("act 0 what -1", x.acts(0, -1), -2);
        check.due("act 2", x.acts(2, 0), -2);
        check.due("act -1", x.acts(-1, 0), -2);
        check.due("order until", x.orders(0, 2), 52);
        check.due("order thing", x.orders(0, 0), 1);
        check.due("order number", x.orders(0, 1), 9);
        check.due("a wish whatever least and most are", x.wished(1, 0, 0), NO);
        x.rank(3, 0, 1);
        check.due("wished by rank", x.wished(1, 0, 0), 700);
        check.due("wished by", x.wished(1, 0, 1), 3);
        x.word(0, 2, 2, 0, NO, NO);
        check.due("tick, not held", x.tick(), 0);
        x.word(0, 3, 3, 9, NO, NO);
        check.due("tick, held again", x.tick(), 2);
        check.due("led by the latest", x.acts(2, 2), 2);
        Check.ticks(x, 3960);
        x.word(0, 4, 3950, 0, NO, NO);
        x.tick();
        x.word(0, 5, 3960, 9, NO, NO);
        x.tick();
        check.due("now", x.count(0), 3967);
        check.due("until 3999 at most", x.orders(2, 2), 3999);
    }

    private static void forcing() {
        ThingPost x = two();
        check.due("force no rule", x.force(0, false), false);
        Check.rule(x, 0, "when not t0.f0=1 : order t1 9");
        check.due("in force already", x.force(0, true), false);
        check.due("out of force", x.force(0, false), true);
        check.due("out again", x.force(0, false), false);
        check.due("tick, not looked at", x.tick(), 0);
        check.due("held all the same", x.held(0, 1, 1), 1);
        check.due("in force", x.force(0, true), true);
        check.due("tick, acts", x.tick(), 1);
        check.due("tick, held", x.tick(), 0);
        x.force(0, false);
        x.force(0, true);
        check.due("out and in: acts", x.tick(), 1);
        x.force(0, false);
        x.tick();
        x.force(0, true);
        check.due("out a tick and in: acts", x.tick(), 1);
        check.due("force rule 1", x.force(1, true), false);
        check.due("force rule -1", x.force(-1, false), false);
    }

    private static void leadAndWould() {
        ThingPost x = two();
        x.thing(0, 0);
        Check.rule(x, 0, "when not t0.f0=1 and not age t1=500 unless t2.f0=5 : order t1 9");
        x.word(2, 1, 0, 1, NO, NO);
        check.due("acts", x.tick(), 1);
        check.due("no word of things in when", x.acts(0, 2), -1);
        x.word(0, 1, 1, 1, NO, NO);
        check.due("would not be done now", x.acts(0, 3), 0);
        check.due("the lead stays as it was", x.acts(0, 2), -1);
        x.tick();
        x.word(1, 1, 2, 1, NO, NO);
        x.word(2, 2, 2, 1, NO, NO);
        x.forget(0);
        check.due("would be done again, as the word is forgotten", x.acts(0, 3), 1);
        check.due("acts again", x.tick(), 1);
        check.due("led by a word of t1", x.acts(1, 2), 2);
        x.word(2, 3, 3, 5, NO, NO);
        check.due("unless counts in would", x.acts(1, 3), 0);
        x.word(0, 9, 3, 1, NO, NO);
        x.word(1, 2, 3, 1, NO, NO);
        check.due("the lead stays", x.acts(1, 2), 2);
    }

    private static void mostRules() {
        ThingPost x = two();
        for (int i = 0; i < 20; i++) {
            check.due("a fault between", Check.rule(x, 0, "when"), Check.fault(4, 0));
            check.due("rule " + i, Check.rule(x, 7, "when t0.f0=1:wish t0.f0=1"), i);
        }
        Check.type(x, "when");
        check.due("rule 20", x.rule(0), -1);
        check.due("tape stays", x.count(7), 4);
        check.due("count of rules", x.count(3), 20);
    }

    private static void mostActs() {
        ThingPost x = two();
        for (int i = 0; i < 20; i++) {
            Check.rule(x, 0, "when age t0=0:wish t0.f" + i % 3 + "=" + i);
        }
        int count = 0;
        for (int i = 0; i < 16; i++) {
            x.tick();
            count++;
            // The word comes on a tick that was looked at, so its age is 0 when ticks stand still alone.
            x.word(0, count, 0, 1, 1, 1);
        }
        check.due("age is 1 at the next tick", x.count(4), 0);
        ThingPost y = two();
        for (int i = 0; i < 20; i++) {
            Check.rule(y, 0, "when age t0=1:wish t0.f" + i % 3 + "=" + i);
        }
        for (int i = 1; i <= 15; i++) {
            y.word(0, i, 0, 1, 1, 1);
            check.due("twenty act", y.tick(), 20);
            check.due("none acts", y.tick(), 0);
        }
        check.due("300 acts", y.count(4), 300);
        check.due("wished", y.wished(0, 0, 0), 18);
        y.wish(0, 0, 0, 0);
        y.word(0, 16, 0, 1, 1, 1);
        check.due("twenty act beyond 300", y.tick(), 20);
        check.due("not noted", y.count(4), 300);
        check.due("not done", y.wished(0, 0, 0), 0);
    }

    private static void mostOrders() {
        ThingPost x = two();
        Check.rule(x, 0, "when age t0=1:order t1 5");
        Check.rule(x, 0, "when age t0=1:wish t0.f0=5");
        for (int i = 0; i < 199; i++) {
            check.due("order " + i, x.order(0, 1, 3999), i);
        }
        x.word(0, 1, 0, 1, 1, 1);
        check.due("the last order", x.tick(), 2);
        check.due("orders", x.count(5), 200);
        x.tick();
        x.word(0, 2, 0, 1, 1, 1);
        check.due("both act", x.tick(), 2);
        check.due("one is noted", x.count(4), 3);
        check.due("the wish", x.acts(2, 0), 1);
        check.due("order 200", x.order(0, 1, 3999), -1);
    }
}
