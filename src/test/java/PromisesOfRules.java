import java.util.function.Consumer;

/** The edges that promises 14 to 19 name. */
final class PromisesOfRules {
    private static final int NO = Check.NOTHING;
    private static final int[] WILD = {Integer.MIN_VALUE, -1000000, -2, 1000000, Integer.MAX_VALUE};
    private final Check check;

    PromisesOfRules(Check check) {
        this.check = check;
    }

    void run() {
        feed();
        fullTape();
        end();
        rule();
        refusedRule();
        force();
        held();
        acts();
    }

    private void unchanged(String call, Consumer<ThingPost> hear) {
        Twins.unchanged(check, Twins::rich, call, hear);
    }

    private void feed() {
        check.of("Promise 14", "Twenty bytes come behind the TAPE, of each number the highest first: how many it has;");
        ThingPost x = Check.withThings(1);
        check.due("the first twenty", x.feed(0x7768656E, 0x2074302E, 0x66303D31, 0x3A776973, 0x68207430), 20);
        check.due("behind these", x.feed(0x2E66303D, 0x31202020, 0x20202020, 0x20202020, 0x20202020), 40);
        check.due("they are a rule", x.rule(0), 0);
        check.due("the next ones are the first again", x.feed(0x77686520, 0, 0, 0, 0), 20);
        check.due("whe, a blank", x.rule(0), Check.fault(0, 0));
        x.feed(0x7768656E, 0x207430FF, -1, -1, -1);
        check.due("byte 255 behind t0", x.rule(0), Check.fault(7, 0));
        x.feed(0x7768656E, 0x2074302E, 0x66303D31, 0x20202020, 0x202020F8);
        check.due("the lowest of the last number is the last byte", x.rule(0), Check.fault(19, 0));
        x.feed(0x7768656E, 0x2074302E, 0x66303D31, 0x20202020, 0x20202020);
        x.end(11);
        check.due("behind eleven", x.feed(0x323A7769, 0x73682074, 0x302E6630, 0x3D312020, 0x20202020), 31);
        check.due("when t0.f0=2:wish t0.f0=1", x.rule(0), 1);
        x.word(0, 1, 0, 2, NO, NO);
        check.due("it is the number 2", x.held(1, 0, 0), 1);
    }

    private static ThingPost with(int bytes) {
        ThingPost x = Check.withThings(2);
        for (int i = 0; i < 10; i++) {
            x.feed(0x20202020, 0x20202020, 0x20202020, 0x20202020, 0x20202020);
        }
        x.end(bytes);
        return x;
    }

    private void fullTape() {
        check.of("Promise 14", "NONE, and none comes: it would have more than 200.");
        check.due("20 behind 180", with(180).feed(0, 0, 0, 0, 0), 200);
        check.due("20 behind 181", with(181).feed(0, 0, 0, 0, 0), -1);
        check.due("20 behind 199", with(199).feed(0, 0, 0, 0, 0), -1);
        check.due("20 behind 200", with(200).feed(0, 0, 0, 0, 0), -1);
        for (int bytes : new int[] {181, 199, 200}) {
            ThingPost x = with(bytes);
            x.feed(0x7768656E, 0, 0, 0, 0);
            check.due("bytes, behind " + bytes, x.count(7), bytes);
            check.due("blanks alone, behind " + bytes, x.rule(0), Check.fault(bytes, 0));
            Twins.unchanged(check, () -> with(bytes), "feed behind " + bytes, y -> y.feed(1, 2, 3, 4, 5));
        }
    }

    private void end() {
        check.of("Promise 15", "The TAPE has its first n bytes alone: n; NONE, and nothing happens, if it has not so many, or"
            + " n is below 0.");
        ThingPost x = Check.withThings(1);
        check.due("0 of none", x.end(0), 0);
        check.due("1 of none", x.end(1), -1);
        x.feed(0x7768656E, 0x20742031, 0, 0, 0);
        check.due("21 of 20", x.end(21), -1);
        check.due("-1 of 20", x.end(-1), -1);
        check.due("20 of 20", x.end(20), 20);
        check.due("6 of 20", x.end(6), 6);
        check.due("7 of 6", x.end(7), -1);
        check.due("bytes", x.count(7), 6);
        check.due("the first ones", x.rule(0), Check.fault(6, 0));
        check.due("0 of none", x.end(0), 0);
        x.feed(1, 2, 3, 4, 5);
        check.due("0 of 20", x.end(0), 0);
        check.due("bytes", x.count(7), 0);
        check.due("200 of 200", with(200).end(200), 200);
        check.due("201 of 200", with(200).end(201), -1);
        unchanged("end(21) of 20", y -> y.end(21));
        unchanged("end(-1)", y -> y.end(-1));
        for (int wild : WILD) {
            check.due("end(" + wild + ")", Twins.rich().end(wild), -1);
            unchanged("end(" + wild + ")", y -> y.end(wild));
        }
    }

    private void rule() {
        check.of("Promise 16", "The TAPE, which is empty then, is a RULE of an OWNER: its number; -2 - its FAULT;");
        ThingPost x = Check.withThings(1);
        check.due("of an empty tape", x.rule(0), -3);
        check.due("a rule", Check.rule(x, 0, "when t0.f0=1:wish t0.f0=1"), 0);
        check.due("empty then", x.count(7), 0);
        check.due("empty: fault 1", x.rule(0), -3);
        check.due("a fault", Check.rule(x, 0, "when t0.f0=1:wish t0.f0=1 x"), Check.fault(26, 0));
        check.due("empty then, too", x.count(7), 0);
        check.due("rules", x.count(3), 1);
        check.due("the next rule has the next number", Check.rule(x, 7, "when not t0.f0=1:wish t0.f0=1"), 1);
        x.tick();
        x.rank(7, 0, 9);
        check.due("it is of its owner", x.wished(0, 0, 1), 7);
        check.due("one with a fault never acts", x.count(4), 1);
    }

    private void refusedRule() {
        check.of("Promise 16", "NONE, and nothing happens: there are 20, or no such OWNER.");
        for (int owner : new int[] {-1, 8, 1000000, Integer.MIN_VALUE, Integer.MAX_VALUE}) {
            check.due("owner " + owner, Twins.rich().rule(owner), -1);
            unchanged("rule of owner " + owner, y -> y.rule(owner));
        }
        ThingPost x = Check.withThings(1);
        for (int i = 0; i < 20; i++) {
            check.due("rule " + i, Check.rule(x, 0, "when t0.f0=1:wish t0.f0=1"), i);
        }
        Check.type(x, "when t0.f0=1:wish t0.f0=1");
        check.due("there are 20", x.rule(0), -1);
        check.due("the tape stays", x.count(7), 25);
        x.end(3);
        check.due("there are 20, and a fault", x.rule(0), -1);
        check.due("the tape stays", x.count(7), 3);
        check.due("rules", x.count(3), 20);
    }

    private void force() {
        check.of("Promise 17", "A RULE is in force or not: whether that changed. False without it.");
        ThingPost x = Check.withThings(1);
        check.due("no rule", x.force(0, false), false);
        Check.rule(x, 0, "when t0.f0=1:wish t0.f0=1");
        check.due("it is in force at first", x.force(0, true), false);
        check.due("put out", x.force(0, false), true);
        check.due("out already", x.force(0, false), false);
        check.due("put in", x.force(0, true), true);
        check.due("in already", x.force(0, true), false);
        for (int rule : new int[] {1, -1, 20, 19, Integer.MIN_VALUE, Integer.MAX_VALUE}) {
            check.due("rule " + rule + " out", x.force(rule, false), false);
            check.due("rule " + rule + " in", x.force(rule, true), false);
        }
        unchanged("force of a rule in force", y -> y.force(0, true));
        unchanged("force of a rule out of force", y -> y.force(1, false));
        unchanged("force of no rule", y -> y.force(4, false));
    }

    private void held() {
        check.of("Promise 18", "1 if a RULE is HELD at a TICK as KNOWN on a TICK (in force or not), 0 if not; NONE without"
            + " these.");
        ThingPost x = Check.withThings(1);
        check.due("no rule", x.held(0, 0, 0), -1);
        Check.rule(x, 0, "when t0.f0=1:wish t0.f0=1");
        check.due("0", x.held(0, 0, 0), 0);
        x.word(0, 1, 0, 1, NO, NO);
        check.due("1", x.held(0, 0, 0), 1);
        x.force(0, false);
        check.due("out of force", x.held(0, 0, 0), 1);
        check.due("at 3999 as known on 3999", x.held(0, 3999, 3999), 1);
        int[][] wrong = {{1, 0, 0}, {-1, 0, 0}, {0, -1, 0}, {0, 4000, 0}, {0, 0, -1}, {0, 0, 4000}};
        for (int[] n : wrong) {
            check.due("held(" + n[0] + ", " + n[1] + ", " + n[2] + ")", x.held(n[0], n[1], n[2]), -1);
        }
        for (int wild : WILD) {
            check.due("rule " + wild, x.held(wild, 0, 0), -1);
            check.due("at " + wild, x.held(0, wild, 0), -1);
            check.due("known on " + wild, x.held(0, 0, wild), -1);
        }
    }

    private void acts() {
        check.of("Promise 19", "Of an ACT what 0: the RULE, 1: the TICK, 2: the WORD by which it is LED (NONE), 3: 1 if it"
            + " WOULD be done, else 0, 4: the ORDER it gave (NONE: a wish).");
        ThingPost x = Check.withThings(2);
        Check.rule(x, 0, "when not t0.f0=1:wish t0.f0=1");
        Check.rule(x, 0, "when t1.f0=1:order t1 7");
        x.order(0, 1, 9);
        x.tick();
        x.word(1, 5, 1, 0, NO, NO);
        x.word(1, 6, 1, 1, NO, NO);
        x.tick();
        x.word(0, 1, 1, 1, NO, NO);
        int[][] due = {{0, 1, -1, 0, -1}, {1, 2, 1, 1, 1}};
        for (int k = 0; k < 2; k++) {
            for (int what = 0; what < 5; what++) {
                check.due("acts(" + k + ", " + what + ")", x.acts(k, what), due[k][what]);
            }
        }

        check.of("Promise 19", "-2 without it, or for another what.");
        check.due("what 5", x.acts(0, 5), -2);
        check.due("what -1", x.acts(0, -1), -2);
        check.due("act 2", x.acts(2, 0), -2);
        check.due("act -1", x.acts(-1, 0), -2);
        check.due("of a new object", new ThingPost().acts(0, 0), -2);
        for (int wild : WILD) {
            check.due("what " + wild, x.acts(0, wild), -2);
            check.due("act " + wild, x.acts(wild, 0), -2);
        }
    }
}
