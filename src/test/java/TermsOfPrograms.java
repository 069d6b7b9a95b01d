/** The edges that part VI of the terms names: programs, rings of things, WORSE, stopping and going back. */
final class TermsOfPrograms {
    private static final String PART = "Terms VI";
    private final Check check;

    TermsOfPrograms(Check check) {
        this.check = check;
    }

    void run() {
        programs();
        rings();
        once();
        lesserRings();
        worseOrStopped();
        reports();
        odds();
        ways();
        waysOfMany();
        withoutReport();
        stopped();
        back();
        asIfNotBegun();
    }

    private void of(String words) {
        check.of(PART, words);
    }

    private void programs() {
        of("PROGRAMS: each THING has one (0 at first).");
        ThingPost x = new ThingPost();
        check.due("no thing", x.things(0, 2), -1);
        x.thing(0, 0);
        check.due("0 at first", x.things(0, 2), 0);
        x.join(0, 0);
        x.begin(0, 999);
        check.due("0 still, as it did not report", x.things(0, 2), 0);
        x.report(0, true);
        check.due("then it has it", x.things(0, 2), 999);
    }

    private void rings() {
        of("RINGS 0 to 7, of THINGS (each in one at most).");
        ThingPost x = Check.withThings(4);
        check.due("ring of none", x.things(0, 3), -1);
        check.due("ring 8", x.join(0, 8), false);
        check.due("ring -1", x.join(0, -1), false);
        check.due("ring of none still", x.things(0, 3), -1);
        check.due("ring 7", x.join(0, 7), true);
        check.due("ring 0", x.join(1, 0), true);
        check.due("in one", x.join(1, 0), false);
        check.due("in another one", x.join(0, 0), false);
        check.due("its ring", x.things(0, 3), 7);
        check.due("two in one ring", x.join(2, 7), true);
        check.due("the last ring", x.worse(7), 0);
        check.due("no such ring", x.worse(8), -1);
        check.due("no such ring, either", x.worse(-1), -1);
    }

    private void once() {
        of("A RING begins a PROGRAM (1 to 999) once,");
        ThingPost x = Check.withThings(2);
        x.join(0, 0);
        x.join(1, 1);
        check.due("program 0", x.begin(0, 0), false);
        check.due("program 1000", x.begin(0, 1000), false);
        check.due("program -1", x.begin(0, -1), false);
        check.due("program 1", x.begin(0, 1), true);
        check.due("again", x.begin(0, 1), false);
        check.due("another one", x.begin(0, 2), false);
        check.due("program 999", x.begin(1, 999), true);
    }

    private void lesserRings() {
        of("if all RINGS with lesser numbers that have THINGS began one,");
        ThingPost x = Check.withThings(3);
        check.due("without things", x.begin(7, 5), false);
        x.join(0, 7);
        check.due("the others have none", x.begin(7, 5), true);
        x.back(7);
        x.join(1, 6);
        check.due("ring 6 did not begin", x.begin(7, 5), false);
        x.join(2, 0);
        check.due("ring 0 did not begin", x.begin(6, 5), false);
        check.due("ring 0", x.begin(0, 5), true);
        check.due("ring 7 ahead of ring 6", x.begin(7, 5), false);
        check.due("ring 6, though nobody reported", x.begin(6, 6), true);
        check.due("ring 7", x.begin(7, 7), true);
    }

    private void worseOrStopped() {
        of("none of them is WORSE (by the odds told there) or stopped, and it is not stopped.");
        ThingPost x = Check.withThings(4);
        for (int i = 0; i < 4; i++) {
            x.join(i, i);
        }
        x.begin(0, 1);
        x.begin(1, 1);
        x.report(0, true);
        x.report(1, false);
        // 1 of 2 ways, in ring 1.
        x.odds(1, 501, 1000);
        x.odds(2, 1, 2);
        check.due("ring 1 is worse", x.worse(1), 1);
        check.due("ring 2 may not", x.begin(2, 1), false);
        x.odds(1, 500, 1000);
        x.odds(2, 1, 1);
        check.due("ring 1 is not worse", x.worse(1), 0);
        check.due("ring 2 may", x.begin(2, 1), true);
        check.due("stop 3", x.stop(3), 5);
        check.due("ring 3 is stopped", x.begin(3, 1), false);
        ThingPost y = Check.withThings(2);
        y.join(0, 0);
        y.join(1, 1);
        y.begin(0, 1);
        y.stop(1);
        check.due("ring 1 is stopped", y.begin(1, 1), false);
        ThingPost z = Check.withThings(2);
        z.join(0, 0);
        z.join(1, 1);
        z.begin(0, 1);
        z.stop(0);
        check.due("ring 0 and ring 1 are stopped", z.begin(1, 1), false);
    }

    private void reports() {
        of("A THING of a RING that began reports once: it did (then it has that PROGRAM), or failed.");
        ThingPost x = Check.withThings(4);
        x.join(0, 0);
        x.join(1, 0);
        x.join(2, 1);
        check.due("did not begin", x.report(0, true), false);
        check.due("no report", x.things(0, 5), -1);
        x.begin(0, 33);
        check.due("did", x.report(0, true), true);
        check.due("once", x.report(0, true), false);
        check.due("not otherwise", x.report(0, false), false);
        check.due("failed", x.report(1, false), true);
        check.due("not otherwise", x.report(1, true), false);
        check.due("of a ring that did not begin", x.report(2, true), false);
        check.due("of no ring", x.report(3, true), false);
        check.due("has it", x.things(0, 2), 33);
        check.due("has it not", x.things(1, 2), 0);
        check.due("did", x.things(0, 5), 1);
        check.due("failed", x.things(1, 5), 0);
        check.due("none", x.things(2, 5), -1);
    }

    private void odds() {
        of("WORSE, by a in b (0 to b; b 1 to 1000):");
        ThingPost x = Check.withThings(1);
        check.due("0 in 1", x.odds(0, 0, 1), true);
        check.due("1 in 1", x.odds(0, 1, 1), true);
        check.due("2 in 1", x.odds(0, 2, 1), false);
        check.due("-1 in 1", x.odds(0, -1, 1), false);
        check.due("0 in 0", x.odds(0, 0, 0), false);
        check.due("0 in -1", x.odds(0, 0, -1), false);
        check.due("1000 in 1000", x.odds(7, 1000, 1000), true);
        check.due("0 in 1000", x.odds(7, 0, 1000), true);
        check.due("1001 in 1000", x.odds(7, 1001, 1000), false);
        check.due("1 in 1001", x.odds(7, 1, 1001), false);
        check.due("ring 8", x.odds(8, 1, 1), false);
        check.due("ring -1", x.odds(-1, 1, 1), false);
    }

    /** THINGS of RING 0 and of RING 1 report: so many did, and so many failed. */
    private static ThingPost reported(int did0, int failed0, int did1, int failed1) {
        int[] many = {did0, failed0, did1, failed1};
        ThingPost x = Check.withThings(did0 + failed0 + did1 + failed1);
        int thing = 0;
        for (int i = 0; i < 4; i++) {
            for (int k = 0; k < many[i]; k++) {
                x.join(thing + k, i / 2);
            }
            thing += many[i];
        }
        x.begin(0, 1);
        x.begin(1, 1);
        thing = 0;
        for (int i = 0; i < 4; i++) {
            for (int k = 0; k < many[i]; k++) {
                x.report(thing + k, i % 2 == 0);
            }
            thing += many[i];
        }
        return x;
    }

    private void worse(ThingPost x, int ring, int a, int b, int want) {
        check.due("odds " + a + " in " + b, x.odds(ring, a, b), true);
        check.due("worse(" + ring + ") by " + a + " in " + b, x.worse(ring), want);
    }

    private void ways() {
        of("of all THINGS that reported, N, F failed, those of this RING n, and f failed: of all ways to take n of N those"
            + " with f or more of the F, times b, are fewer than a times all ways");
        // N 5, F 2, n 2, f 1: with 1 or more of the 2 are 10 - 3 = 7 of 10 ways.
        ThingPost x = reported(2, 1, 1, 1);
        worse(x, 1, 7, 10, 0);
        worse(x, 1, 700, 1000, 0);
        worse(x, 1, 701, 1000, 1);
        worse(x, 1, 8, 10, 1);
        // n 3, f 1 of the same: with 1 or more are 10 - 1 = 9 of 10 ways.
        worse(x, 0, 9, 10, 0);
        worse(x, 0, 901, 1000, 1);
        // N 5, F 2, n 2, f 2: 1 of 10 ways.
        ThingPost y = reported(3, 0, 0, 2);
        worse(y, 1, 1, 10, 0);
        worse(y, 1, 101, 1000, 1);
        worse(y, 1, 100, 1000, 0);
        worse(y, 1, 0, 1, 0);
        // f 0: all ways.
        worse(y, 0, 1, 1, 0);
        // A THING that did not report is none of N.
        ThingPost z = reported(1, 0, 0, 1);
        z.thing(0, 0);
        z.join(2, 2);
        z.begin(2, 1);
        worse(z, 1, 1, 2, 0);
        worse(z, 1, 501, 1000, 1);
    }

    private void waysOfMany() {
        of("times b, are fewer than a times all ways");
        ThingPost x = reported(20, 0, 0, 20);
        worse(x, 1, 1, 1000, 1);
        worse(x, 1, 0, 1000, 0);
        worse(x, 0, 1000, 1000, 0);
        x = reported(0, 20, 0, 20);
        worse(x, 1, 1000, 1000, 0);
        x = reported(19, 1, 1, 19);
        worse(x, 1, 1, 1000, 1);
        worse(x, 0, 1000, 1000, 1);
        worse(x, 0, 999, 1000, 0);
        x = reported(39, 0, 0, 1);
        worse(x, 1, 25, 1000, 0);
        worse(x, 1, 26, 1000, 1);
        x = reported(0, 0, 39, 1);
        worse(x, 1, 1000, 1000, 0);
    }

    private void withoutReport() {
        of("(no RING without a report is).");
        ThingPost x = Check.withThings(2);
        worse(x, 3, 1, 1, 0);
        x.join(0, 0);
        x.join(1, 1);
        worse(x, 1, 1, 1, 0);
        x.begin(0, 1);
        x.begin(1, 1);
        x.report(0, false);
        worse(x, 1, 1, 1, 0);
        check.due("odds of old", new ThingPost().worse(0), 0);
    }

    private void stopped() {
        of("Stopped: by a hand, it and all behind it.");
        ThingPost x = Check.withThings(3);
        x.join(0, 5);
        x.join(1, 6);
        x.join(2, 7);
        check.due("the last alone", x.stop(7), 1);
        check.due("again", x.stop(7), 0);
        check.due("ahead of it", x.begin(5, 1), true);
        check.due("the one behind", x.stop(6), 1);
        check.due("it may not begin", x.begin(6, 1), false);
        check.due("all", x.stop(0), 6);
        check.due("one that began still reports", x.report(0, true), true);
        check.due("all again", x.stop(0), 0);
    }

    private void back() {
        of("BACK: THINGS of a RING that did have the PROGRAM again that they had ahead;");
        ThingPost x = Check.withThings(4);
        x.join(0, 0);
        x.join(1, 0);
        x.join(2, 0);
        x.join(3, 1);
        x.begin(0, 50);
        x.begin(1, 60);
        x.report(0, true);
        x.report(1, false);
        x.report(3, true);
        check.due("one did", x.back(0), 1);
        check.due("its program", x.things(0, 2), 0);
        check.due("the one that failed", x.things(1, 2), 0);
        check.due("the one that said nothing", x.things(2, 2), 0);
        check.due("another ring's", x.things(3, 2), 60);
        x.begin(0, 51);
        x.report(0, true);
        x.report(1, true);
        check.due("the new one", x.things(0, 2), 51);
        check.due("two did", x.back(0), 2);
        check.due("their programs", x.things(0, 2) + x.things(1, 2), 0);
    }

    private void asIfNotBegun() {
        of("their reports are gone, the RING is as if it had not begun.");
        ThingPost x = Check.withThings(4);
        for (int i = 0; i < 3; i++) {
            x.join(i, i / 2);
        }
        x.begin(0, 50);
        x.begin(1, 50);
        x.report(0, false);
        x.report(1, true);
        x.report(2, true);
        // N 3, F 1, n 2, f 1: 2 of 3 ways.
        worse(x, 0, 1, 1, 1);
        check.due("back", x.back(0), 1);
        check.due("no report of 0", x.things(0, 5), -1);
        check.due("no report of 1", x.things(1, 5), -1);
        check.due("another ring's report", x.things(2, 5), 1);
        check.due("not worse without reports", x.worse(0), 0);
        check.due("it can't report", x.report(0, true), false);
        check.due("it is not back again", x.back(0), -1);
        check.due("ring 1 keeps its program", x.things(2, 2), 50);
        check.due("a thing can join", x.join(3, 0), true);
        check.due("it stays in it", x.things(0, 3), 0);
        check.due("it can begin", x.begin(0, 51), true);
        check.due("and report", x.report(0, true), true);
    }
}
