import java.util.function.Consumer;

/** The edges that promises 34 to 42 name. */
final class PromisesOfPrograms {
    private static final int[] WILD = {Integer.MIN_VALUE, -1000000, -2, 1000000, Integer.MAX_VALUE};
    private final Check check;

    PromisesOfPrograms(Check check) {
        this.check = check;
    }

    void run() {
        join();
        odds();
        begin();
        report();
        worse();
        stop();
        back();
        things();
        count();
    }

    private void unchanged(String call, Consumer<ThingPost> hear) {
        Twins.unchanged(check, Twins::rich, call, hear);
    }

    private void join() {
        check.of("Promise 34", "A THING comes to a RING: true; false, and nothing happens: none such, it is in one, or that"
            + " RING began.");
        ThingPost x = Twins.rich();
        check.due("ring 7", x.join(3, 7), true);
        check.due("its ring", x.things(3, 3), 7);
        check.due("in it", x.join(3, 7), false);
        // In the rich object RING 0 began, THINGS 0, 1 and 2 are in RINGS, THING 3 is not.
        int[][] wrong = {{3, 0}, {3, 8}, {3, -1}, {4, 1}, {-1, 1}, {0, 0}, {0, 1}, {2, 1}, {2, 2}};
        for (int[] n : wrong) {
            check.due("join(" + n[0] + ", " + n[1] + ")", Twins.rich().join(n[0], n[1]), false);
            unchanged("join(" + n[0] + ", " + n[1] + ")", y -> y.join(n[0], n[1]));
        }
        for (int wild : WILD) {
            unchanged("join of thing " + wild, y -> y.join(wild, 2));
            unchanged("join of ring " + wild, y -> y.join(3, wild));
        }
        ThingPost y = Check.withThings(40);
        for (int i = 0; i < 40; i++) {
            check.due("thing " + i, y.join(i, 7), true);
        }
        check.due("no things", new ThingPost().join(0, 0), false);
    }

    private void odds() {
        check.of("Promise 35", "Odds of a RING, by which it is WORSE (1 in 20 at first): true; false, and nothing happens, for"
            + " others.");
        for (int ring = 0; ring < 8; ring++) {
            int other = ring == 7 ? 0 : 7;
            ThingPost x = Check.withThings(21);
            x.join(20, ring);
            for (int i = 0; i < 20; i++) {
                x.join(i, other);
            }
            x.begin(Math.min(ring, other), 1);
            x.begin(Math.max(ring, other), 1);
            x.report(20, false);
            for (int i = 0; i < 19; i++) {
                x.report(i, true);
            }
            check.due("1 in 20, ring " + ring, x.worse(ring), 0);
            x.report(19, true);
            check.due("1 in 21, ring " + ring, x.worse(ring), 1);
            x.odds(other, 0, 1);
            check.due("by its own odds, ring " + ring, x.worse(ring), 1);
            check.due("told, ring " + ring, x.odds(ring, 0, 1), true);
            check.due("never, ring " + ring, x.worse(ring), 0);
        }
        int[][] wrong = {{-1, 1, 2}, {8, 1, 2}, {0, -1, 2}, {0, 3, 2}, {0, 0, 0}, {0, 1, 0}, {0, 1, 1001}, {0, 0, -1},
            {0, 1001, 1001}};
        for (int[] n : wrong) {
            String call = "odds(" + n[0] + ", " + n[1] + ", " + n[2] + ")";
            check.due(call, worseOne().odds(n[0], n[1], n[2]), false);
            Twins.unchanged(check, PromisesOfPrograms::worseOne, call, y -> y.odds(n[0], n[1], n[2]));
        }
        for (int wild : WILD) {
            Twins.unchanged(check, PromisesOfPrograms::worseOne, "odds of ring " + wild, y -> y.odds(wild, 0, 2));
            Twins.unchanged(check, PromisesOfPrograms::worseOne, "odds in " + wild, y -> y.odds(0, 0, wild));
            Twins.unchanged(check, PromisesOfPrograms::worseOne, "odds of " + wild, y -> y.odds(0, wild, 1000));
        }
    }

    /** RING 0 is WORSE by odds that are more than 1 in 2: one of its two THINGS failed, RING 1 is told to have begun. */
    private static ThingPost worseOne() {
        ThingPost x = Twins.rich();
        x.begin(1, 3);
        x.report(2, true);
        x.report(1, false);
        x.odds(0, 667, 1000);
        return x;
    }

    private void begin() {
        check.of("Promise 36", "A RING begins a PROGRAM: true; false, and nothing happens: it may not, has no THINGS, began, or"
            + " there is no such PROGRAM.");
        check.due("it may", Twins.rich().begin(1, 999), true);
        int[][] wrong = {{1, 0}, {1, 1000}, {1, -1}, {0, 5}, {0, 17}, {2, 5}, {7, 5}, {8, 5}, {-1, 5}};
        for (int[] n : wrong) {
            check.due("begin(" + n[0] + ", " + n[1] + ")", Twins.rich().begin(n[0], n[1]), false);
            unchanged("begin(" + n[0] + ", " + n[1] + ")", y -> y.begin(n[0], n[1]));
        }
        for (int wild : WILD) {
            unchanged("begin of ring " + wild, y -> y.begin(wild, 5));
            unchanged("begin of program " + wild, y -> y.begin(1, wild));
        }
        ThingPost x = Twins.rich();
        x.join(3, 2);
        check.due("ring 1 did not begin", x.begin(2, 5), false);
        x.begin(1, 5);
        check.due("it did", x.begin(2, 5), true);
        check.due("a worse one is ahead", fourth(worseOne()).begin(2, 5), false);
        Twins.unchanged(check, () -> fourth(worseOne()), "begin behind a worse one", y -> y.begin(2, 5));
        Twins.unchanged(check, PromisesOfPrograms::stopped, "begin of a stopped one", y -> y.begin(1, 5));
        check.due("a stopped one", stopped().begin(1, 5), false);
    }

    private static ThingPost fourth(ThingPost x) {
        x.join(3, 2);
        return x;
    }

    private static ThingPost stopped() {
        ThingPost x = Twins.rich();
        x.stop(1);
        return x;
    }

    private void report() {
        check.of("Promise 37", "A THING reports: true; false, and nothing happens: none such, its RING did not begin, or it"
            + " reported.");
        check.due("did", Twins.rich().report(1, true), true);
        check.due("failed", Twins.rich().report(1, false), true);
        for (int thing : new int[] {0, 2, 3, 4, -1, 39, 40, Integer.MIN_VALUE, Integer.MAX_VALUE}) {
            for (boolean did : new boolean[] {true, false}) {
                check.due("report(" + thing + ", " + did + ")", Twins.rich().report(thing, did), false);
                unchanged("report(" + thing + ", " + did + ")", y -> y.report(thing, did));
            }
        }
        ThingPost x = stopped();
        check.due("of a ring ahead of the stopped ones", x.report(1, true), true);
        x = Twins.rich();
        x.back(0);
        check.due("of a ring that went back", x.report(0, true), false);
    }

    private void worse() {
        check.of("Promise 38", "1 if a RING is WORSE, 0 if not; NONE without it.");
        ThingPost x = worseOne();
        check.due("ring 0", x.worse(0), 1);
        check.due("ring 1", x.worse(1), 0);
        check.due("ring 7, without things", x.worse(7), 0);
        check.due("ring 8", x.worse(8), -1);
        check.due("ring -1", x.worse(-1), -1);
        for (int wild : WILD) {
            check.due("ring " + wild, x.worse(wild), -1);
        }
        check.due("of a new object", new ThingPost().worse(0), 0);
        x.back(0);
        check.due("as its reports are gone", x.worse(0), 0);
    }

    private void stop() {
        check.of("Promise 39", "It is stopped, and all behind it: how many were not yet; NONE without it.");
        ThingPost x = new ThingPost();
        check.due("ring 8", x.stop(8), -1);
        check.due("ring -1", x.stop(-1), -1);
        for (int wild : WILD) {
            check.due("ring " + wild, x.stop(wild), -1);
        }
        check.due("ring 7", x.stop(7), 1);
        check.due("ring 7 again", x.stop(7), 0);
        check.due("ring 4", x.stop(4), 3);
        check.due("ring 5 is", x.stop(5), 0);
        check.due("ring 0", x.stop(0), 4);
        check.due("ring 0 again", x.stop(0), 0);
        check.due("all of a new object", new ThingPost().stop(0), 8);
        unchanged("stop(8)", y -> y.stop(8));
        ThingPost y = Twins.rich();
        y.stop(1);
        check.due("it may not begin", y.begin(1, 5), false);
        check.due("one behind it may not", fourth(y).begin(2, 5), false);
    }

    private void back() {
        check.of("Promise 40", "BACK: how many THINGS have the PROGRAM of before again; NONE without it, or if it did not"
            + " begin. (Stopped ones stay so.)");
        ThingPost x = worseOne();
        check.due("ring 8", x.back(8), -1);
        check.due("ring -1", x.back(-1), -1);
        check.due("ring 2 did not begin", x.back(2), -1);
        for (int wild : WILD) {
            check.due("ring " + wild, x.back(wild), -1);
        }
        check.due("one did, one failed", x.back(0), 1);
        check.due("again", x.back(0), -1);
        check.due("the program of before", x.things(0, 2), 0);
        check.due("begun anew", x.begin(0, 8), true);
        check.due("nobody reported", x.back(0), 0);
        unchanged("back(8)", y -> y.back(8));
        unchanged("back of one that did not begin", y -> y.back(1));
        ThingPost y = Twins.rich();
        y.stop(0);
        check.due("a stopped one", y.back(0), 1);
        check.due("it stays so", y.stop(0), 0);
        check.due("it may not begin", y.begin(0, 5), false);
    }

    private void things() {
        check.of("Promise 41", "Of a THING what 0: KIND, 1: OWNER, 2: PROGRAM, 3: RING (NONE), 4: greatest COUNT that came (0),"
            + " 5: 1 if it reported did, 0 failed, NONE not, 6: WORDS (those FORGOTTEN, too).");
        ThingPost x = new ThingPost();
        x.thing(7, 6);
        x.thing(0, 0);
        x.thing(2, 5);
        x.join(0, 3);
        x.join(2, 3);
        x.begin(3, 123);
        x.report(0, true);
        x.report(2, false);
        x.word(0, 200, 0, 1, 1, 1);
        x.word(0, 9, 0, 1, 1, 1);
        x.word(2, 1, 0, 1, 1, 1);
        x.forget(0);
        x.word(0, 10, 0, 1, 1, 1);
        int[][] due = {{7, 6, 123, 3, 200, 1, 3}, {0, 0, 0, -1, 0, -1, 0}, {2, 5, 0, 3, 1, 0, 1}};
        for (int k = 0; k < 3; k++) {
            for (int what = 0; what < 7; what++) {
                check.due("things(" + k + ", " + what + ")", x.things(k, what), due[k][what]);
            }
        }

        check.of("Promise 41", "NONE without it, or for another what.");
        check.due("what 7", x.things(0, 7), -1);
        check.due("what -1", x.things(0, -1), -1);
        check.due("thing 3", x.things(3, 0), -1);
        check.due("thing -1", x.things(-1, 0), -1);
        check.due("thing 40", x.things(40, 0), -1);
        check.due("of a new object", new ThingPost().things(0, 0), -1);
        for (int wild : WILD) {
            check.due("what " + wild, x.things(0, wild), -1);
            check.due("thing " + wild, x.things(wild, 0), -1);
        }
    }

    private void count() {
        check.of("Promise 42", "What 0: NOW, 1: THINGS, 2: WORDS, 3: RULES, 4: ACTS, 5: ORDERS, 6: QUESTIONS, 7: bytes of the"
            + " TAPE.");
        ThingPost x = Check.withThings(3);
        x.word(0, 1, 0, 1, 1, 1);
        x.word(0, 2, 0, 1, 1, 1);
        for (int i = 0; i < 4; i++) {
            Check.rule(x, 0, i < 2 ? "when t0.f0=1:order t0 1" : "when t1.f0=1:wish t0.f0=1");
        }
        Check.ticks(x, 7);
        x.order(0, 1, 3999);
        x.question(0, 1, 0);
        x.feed(0, 0, 0, 0, 0);
        int[] due = {7, 3, 2, 4, 2, 3, 1, 20};
        for (int what = 0; what < 8; what++) {
            check.due("count(" + what + ")", x.count(what), due[what]);
        }
        x.forget(0);
        check.due("forgotten words, too", x.count(2), 2);
        x.force(0, false);
        check.due("rules out of force, too", x.count(3), 4);

        check.of("Promise 42", "NONE for others.");
        check.due("count(8)", x.count(8), -1);
        check.due("count(-1)", x.count(-1), -1);
        for (int wild : WILD) {
            check.due("count(" + wild + ")", x.count(wild), -1);
        }
    }
}
