/** Promises 34 to 42: rings of things, programs, odds, stopping and going back, things and counts. */
public final class ProgramsTest {
    private static final Check check = new Check();

    public static void main(String[] args) {
        joining();
        beginning();
        reporting();
        worseByOdds();
        worseThanTheRest();
        worseOfForty();
        worseAtFirst();
        stopping();
        goingBack();
        check.end();
    }

    private static ThingPost with(int things) {
        ThingPost x = new ThingPost();
        for (int i = 0; i < things; i++) {
            x.thing(0, 0);
        }
        return x;
    }

    private static void joining() {
        ThingPost x = with(3);
        check.due("join ordinary", x.join(0, 7), true);
        check.due("join again", x.join(0, 7), false);
        check.due("join another", x.join(0, 3), false);
        check.due("join ring 8", x.join(1, 8), false);
        check.due("join ring -1", x.join(1, -1), false);
        check.due("join no thing", x.join(3, 0), false);
        check.due("join thing -1", x.join(-1, 0), false);
        check.due("things(0, 3)", x.things(0, 3), 7);
        check.due("things(1, 3)", x.things(1, 3), -1);
        check.due("begin", x.begin(7, 5), true);
        check.due("join what began", x.join(1, 7), false);
        check.due("go back", x.back(7), 0);
        check.due("join as it is as if it had not begun", x.join(1, 7), true);
        x.stop(0);
        check.due("join what is stopped", x.join(2, 0), true);
    }

    private static void beginning() {
        ThingPost x = with(4);
        check.due("begin without things", x.begin(0, 1), false);
        x.join(0, 1);
        x.join(1, 3);
        x.join(2, 5);
        check.due("begin ring 8", x.begin(8, 1), false);
        check.due("begin ring -1", x.begin(-1, 1), false);
        check.due("begin program 0", x.begin(1, 0), false);
        check.due("begin program 1000", x.begin(1, 1000), false);
        check.due("begin ahead of ring 1", x.begin(3, 1), false);
        check.due("begin ring 0, of no things", x.begin(0, 1), false);
        check.due("begin", x.begin(1, 999), true);
        check.due("begin again", x.begin(1, 999), false);
        check.due("begin ahead of ring 3", x.begin(5, 1), false);
        check.due("begin ring 3", x.begin(3, 1), true);
        x.join(3, 2);
        check.due("ring 2 has things now", x.begin(5, 1), false);
        check.due("begin ring 2", x.begin(2, 7), true);
        check.due("begin ring 5", x.begin(5, 1), true);
    }

    private static void reporting() {
        ThingPost x = with(4);
        x.join(0, 0);
        x.join(1, 0);
        x.join(2, 1);
        check.due("report before it began", x.report(0, true), false);
        x.begin(0, 42);
        check.due("report", x.report(0, true), true);
        check.due("report again", x.report(0, false), false);
        check.due("failed", x.report(1, false), true);
        check.due("failed, again", x.report(1, true), false);
        check.due("report of ring 1", x.report(2, true), false);
        check.due("report of no ring", x.report(3, true), false);
        check.due("report no thing", x.report(4, true), false);
        check.due("report thing -1", x.report(-1, true), false);
        check.due("program of 0", x.things(0, 2), 42);
        check.due("program of 1", x.things(1, 2), 0);
        check.due("report of 0", x.things(0, 5), 1);
        check.due("report of 1", x.things(1, 5), 0);
        check.due("report of 2", x.things(2, 5), -1);
    }

    private static void worseByOdds() {
        ThingPost x = with(4);
        check.due("odds ring 8", x.odds(8, 1, 2), false);
        check.due("odds ring -1", x.odds(-1, 1, 2), false);
        check.due("odds 3 in 2", x.odds(0, 3, 2), false);
        check.due("odds -1 in 2", x.odds(0, -1, 2), false);
        check.due("odds 0 in 0", x.odds(0, 0, 0), false);
        check.due("odds 1 in 1001", x.odds(0, 1, 1001), false);
        check.due("worse ring 8", x.worse(8), -1);
        check.due("worse ring -1", x.worse(-1), -1);
        check.due("worse without things", x.worse(0), 0);
        x.join(0, 0);
        x.join(1, 0);
        x.join(2, 1);
        x.join(3, 1);
        check.due("odds 1 in 1", x.odds(1, 1, 1), true);
        x.begin(0, 1);
        x.begin(1, 1);
        x.report(0, true);
        x.report(1, true);
        check.due("no report is not worse", x.worse(1), 0);
        x.report(2, false);
        // Of 3 ways to take 1 of 3 one has the failed one: 1 * b < a * 3.
        check.due("1 in 3 is fewer than 1 in 1", x.worse(1), 1);
        x.odds(1, 1, 3);
        check.due("1 in 3 is not fewer than 1 in 3", x.worse(1), 0);
        x.odds(1, 334, 1000);
        check.due("1 in 3 is fewer than 334 in 1000", x.worse(1), 1);
        x.odds(1, 333, 1000);
        check.due("1 in 3 is not fewer than 333 in 1000", x.worse(1), 0);
        x.odds(1, 0, 1);
        check.due("never", x.worse(1), 0);
        x.odds(0, 1, 1);
        check.due("all ways have 0 or more", x.worse(0), 0);
    }

    private static void worseThanTheRest() {
        ThingPost x = with(14);
        for (int i = 0; i < 14; i++) {
            x.join(i, i < 7 ? 0 : i < 13 ? 1 : 2);
        }
        x.begin(0, 1);
        for (int i = 0; i < 7; i++) {
            x.report(i, true);
        }
        x.begin(1, 2);
        x.report(7, false);
        x.report(8, true);
        check.due("1 of 2: 8 of 36 ways", x.worse(1), 0);
        x.report(9, false);
        // Of 10 take 3: 2 of the 2 failed: 8 of 120 ways, that is 1 in 15.
        check.due("8 of 120", x.worse(1), 0);
        x.odds(1, 1, 14);
        check.due("1 in 15 is fewer than 1 in 14", x.worse(1), 1);
        check.due("ring 2 may not begin", x.begin(2, 3), false);
        x.odds(1, 1, 15);
        check.due("ring 2 may begin", x.begin(2, 3), true);
        x.odds(1, 1, 20);
        x.report(10, false);
        // Of 11 take 4: 3 of the 3 failed: 8 of 330 ways.
        check.due("8 of 330 are fewer than 1 in 20", x.worse(1), 1);
    }

    private static void worseOfForty() {
        ThingPost x = with(40);
        for (int i = 0; i < 40; i++) {
            check.due("join " + i, x.join(i, i % 2), true);
        }
        x.begin(0, 1);
        x.begin(1, 1);
        for (int i = 0; i < 40; i++) {
            check.due("report " + i, x.report(i, i % 2 == 0), true);
        }
        x.odds(1, 1, 1000);
        check.due("one way of 137846528820", x.worse(1), 1);
        check.due("the other ring", x.worse(0), 0);
        x.odds(1, 0, 1000);
        check.due("never", x.worse(1), 0);
    }

    /** The odds of each ring are 1 in 20 at first: 1 way of 21 is fewer, 1 of 20 is not. */
    private static void worseAtFirst() {
        for (int bad = 0; bad < 8; bad++) {
            ThingPost x = with(21);
            int good = bad == 0 ? 1 : 0;
            x.join(0, bad);
            for (int i = 1; i < 21; i++) {
                x.join(i, good);
            }
            x.begin(Math.min(bad, good), 1);
            x.begin(Math.max(bad, good), 1);
            x.report(0, false);
            for (int i = 1; i < 20; i++) {
                x.report(i, true);
            }
            check.due("1 of 20 ways, ring " + bad, x.worse(bad), 0);
            x.report(20, true);
            check.due("1 of 21 ways, ring " + bad, x.worse(bad), 1);
        }
    }

    private static void stopping() {
        ThingPost x = with(4);
        for (int i = 0; i < 4; i++) {
            x.join(i, i + 2);
        }
        check.due("stop ring 8", x.stop(8), -1);
        check.due("stop ring -1", x.stop(-1), -1);
        x.begin(2, 1);
        x.begin(3, 1);
        check.due("stop from 5 on", x.stop(5), 3);
        check.due("stop from 6 on", x.stop(6), 0);
        check.due("begin what is not stopped", x.begin(4, 1), true);
        check.due("begin what is stopped", x.begin(5, 1), false);
        check.due("stop from 3 on", x.stop(3), 2);
        check.due("a stopped one reports", x.report(1, true), true);
        check.due("a stopped one goes back", x.back(3), 1);
        check.due("it stays stopped", x.begin(3, 1), false);
        check.due("stop all", x.stop(0), 3);
        check.due("stop all again", x.stop(0), 0);
    }

    private static void goingBack() {
        ThingPost x = with(4);
        x.join(0, 0);
        x.join(1, 0);
        x.join(2, 0);
        x.join(3, 1);
        check.due("back ring 8", x.back(8), -1);
        check.due("back ring -1", x.back(-1), -1);
        check.due("back before it began", x.back(0), -1);
        x.begin(0, 10);
        x.report(0, true);
        x.report(1, false);
        check.due("one has the one of before", x.back(0), 1);
        check.due("program", x.things(0, 2), 0);
        check.due("report of the one that did", x.things(0, 5), -1);
        check.due("report of the one that failed", x.things(1, 5), -1);
        check.due("ring stays", x.things(0, 3), 0);
        check.due("back again", x.back(0), -1);
        check.due("report as if not begun", x.report(0, true), false);
        check.due("the next ring has to wait", x.begin(1, 1), false);
        check.due("begin again", x.begin(0, 20), true);
        check.due("report again", x.report(0, true), true);
        check.due("program again", x.things(0, 2), 20);
        check.due("next ring", x.begin(1, 30), true);
        x.report(3, true);
        x.report(1, true);
        check.due("two go back", x.back(0), 2);
        check.due("another ring's stays", x.things(3, 2), 30);
        check.due("another ring's report stays", x.things(3, 5), 1);
    }
}
