import java.util.ArrayList;
import java.util.List;
import java.util.function.Consumer;
import java.util.function.Supplier;

/** Whether a call changes an object: of two made alike one hears it, then both are asked and used alike. */
final class Twins {
    private static final int NO = Check.NOTHING;
    private final List<String> calls = new ArrayList<>();
    private final List<Long> answers = new ArrayList<>();

    private Twins() {
    }

    /** That an object made like this does not change by a call. */
    static void unchanged(Check check, Supplier<ThingPost> make, String call, Consumer<ThingPost> hear) {
        ThingPost heard = make.get();
        hear.accept(heard);
        Twins left = new Twins();
        left.askAll(heard);
        left.useAll(heard);
        Twins right = new Twins();
        ThingPost quiet = make.get();
        right.askAll(quiet);
        right.useAll(quiet);
        for (int i = 0; i < left.calls.size(); i++) {
            if (!left.answers.get(i).equals(right.answers.get(i))) {
                check.due("behind " + call + ", " + left.calls.get(i), left.answers.get(i), right.answers.get(i));
                return;
            }
        }
        check.due("unchanged by " + call, true, true);
    }

    /** An object in which something stands of all that there is. */
    static ThingPost rich() {
        ThingPost x = new ThingPost();
        x.field(0, 0, -50, 50, 2);
        x.field(0, 1, 0, 9, 1);
        x.field(1, 0, 0, 20, 3);
        x.kind(0, 100, 7);
        x.kind(1, 50, 11);
        x.thing(0, 2);
        x.thing(1, 3);
        x.thing(0, 4);
        x.thing(1, 2);
        Check.rule(x, 2, "when t0.f0>5:wish t1.f0=3");
        Check.rule(x, 3, "when t0.f0>5:wish t1.f0=4");
        Check.rule(x, 4, "when age t0<9:order t1 5");
        Check.rule(x, 4, "when t0.f1=1 for 2:wish t0.f0=9");
        x.force(1, false);
        Check.ticks(x, 3);
        x.word(0, 4, 2, 10, 1, NO);
        x.word(0, 1, 3, 8, 2, NO);
        x.word(1, 3, 1, 5, NO, 0);
        x.set(0, 2);
        x.tick();
        x.giveUp(0, 2);
        x.rank(3, 2, 1);
        x.rank(5, 3, 2);
        x.wish(2, 0, 0, 10);
        x.wish(3, 1, 0, 5);
        x.order(0, 7, 9);
        x.order(1, 8, 4);
        x.order(2, 9, 6);
        x.wake(1);
        x.question(0, 5, 60);
        x.question(1, 3, 4);
        x.join(0, 0);
        x.join(1, 0);
        x.join(2, 1);
        x.odds(1, 1, 2);
        x.begin(0, 17);
        x.report(0, true);
        x.ask(9);
        x.pulls(0, 1);
        x.feed(0x7768656E, 0x2074302E, 0x66303E35, 0x3A776973, 0x68207431);
        return x;
    }

    private void is(String call, long answer) {
        calls.add(call);
        answers.add(answer);
    }

    private void is(String call, boolean answer) {
        is(call, answer ? 1 : 0);
    }

    private void askAll(ThingPost x) {
        for (int what = 0; what < 8; what++) {
            is("count(" + what + ")", x.count(what));
        }
        for (int k = 0; k < 5; k++) {
            for (int what = 0; what < 7; what++) {
                is("things(" + k + ", " + what + ")", x.things(k, what));
            }
            for (int what = 4; what < 9; what++) {
                is("words(" + k + ", " + what + ")", x.words(k, what));
            }
            is("missed(" + k + ", -1)", x.missed(k, -1));
            is("missed(" + k + ", 0)", x.missed(k, 0));
            is("held(" + k + ", 4, 4)", x.held(k, 4, 4));
            is("acts(" + k + ", 0)", x.acts(k, 0));
            is("acts(" + k + ", 3)", x.acts(k, 3));
            is("orders(" + k + ", 2)", x.orders(k, 2));
            is("orders(" + k + ", 3)", x.orders(k, 3));
            is("orders(" + k + ", 4)", x.orders(k, 4));
        }
        for (int cell = 0; cell < 12; cell++) {
            int thing = cell / 3;
            int field = cell % 3;
            String place = "(" + thing + ", " + field;
            is("said" + place + ", 4, 4)", x.said(thing, field, 4, 4));
            is("guess" + place + ", 3999, 3999, 0)", x.guess(thing, field, 3999, 3999, 0));
            is("guess" + place + ", 6, 3999, 1)", x.guess(thing, field, 6, 3999, 1));
            is("wished" + place + ", 0)", x.wished(thing, field, 0));
            is("wished" + place + ", 1)", x.wished(thing, field, 1));
        }
        for (int what = 0; what < 4; what++) {
            is("shown(0, " + what + ")", x.shown(0, what));
        }
        for (int question = 0; question < 3; question++) {
            is("width(" + question + ", 9)", x.width(question, 9));
        }
        is("asked()", x.asked());
        is("worse(0)", x.worse(0));
        is("ask(9)", x.ask(9));
    }

    private void useAll(ThingPost x) {
        is("answer(0)", x.answer(0, true));
        is("answer(1)", x.answer(1, false));
        is("answer(2)", x.answer(2, false));
        is("end(19)", x.end(19));
        is("rule(1)", x.rule(1));
        is("rule, told", Check.rule(x, 1, "when t1.f0>0:wish t0.f2=1"));
        is("pulls(0, 1)", x.pulls(0, 1));
        is("tick()", x.tick());
        is("force(1, true)", x.force(1, true));
        is("ring()", x.ring());
        for (int thing = 0; thing < 5; thing++) {
            for (int count = 2; count < 6; count++) {
                is("word(" + thing + ", " + count + ")", x.word(thing, count, 4, 6, 1, 0));
            }
            int word = x.count(2) - 1;
            is("span of a new word, from", x.words(word, 5));
            is("span of a new word, to", x.words(word, 6));
            is("outside of a new word", x.words(word, 7));
            is("report(" + thing + ")", x.report(thing, false));
        }
        is("tick()", x.tick());
        is("acts", x.count(4));
        for (int ring = 0; ring < 3; ring++) {
            is("worse(" + ring + ")", x.worse(ring));
            is("begin(" + ring + ")", x.begin(ring, 5));
            is("back(" + ring + ")", x.back(ring));
        }
        is("stop(3)", x.stop(3));
        is("stop(0)", x.stop(0));
        for (int pair = 0; pair < 64; pair++) {
            is("rank(" + pair / 8 + ", " + pair % 8 + ", 0)", x.rank(pair / 8, pair % 8, 0));
        }
        is("thing(7, 7)", x.thing(7, 7));
        is("join(4, 3)", x.join(4, 3));
        is("order(0, 1, 9)", x.order(0, 1, 9));
        is("question(0, 1, 1)", x.question(0, 1, 1));
    }
}
