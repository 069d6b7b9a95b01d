import java.util.function.Consumer;

/** The edges that promises 20 to 26 name. */
final class PromisesOfWishes {
    private static final int NO = Check.NOTHING;
    private static final int[] WILD = {Integer.MIN_VALUE, -1000000, -2, 1000000, Integer.MAX_VALUE};
    private final Check check;

    PromisesOfWishes(Check check) {
        this.check = check;
    }

    void run() {
        rank();
        wish();
        refusedWish();
        wished();
        order();
        wake();
        answer();
        orders();
    }

    private void unchanged(String call, Consumer<ThingPost> hear) {
        Twins.unchanged(check, Twins::rich, call, hear);
    }

    private void rank() {
        check.of("Promise 20", "RANK of an OWNER with another one (or himself): what it was; NONE, and nothing happens, for"
            + " others.");
        ThingPost x = new ThingPost();
        check.due("with another one", x.rank(0, 7, 9), 0);
        check.due("told", x.rank(0, 7, 0), 9);
        check.due("told 0", x.rank(0, 7, 1), 0);
        check.due("with himself", x.rank(7, 7, 0), 1);
        check.due("with himself, told", x.rank(7, 7, 3), 0);
        int[][] wrong = {{-1, 0, 1}, {8, 0, 1}, {0, -1, 1}, {0, 8, 1}, {3, 2, -1}, {3, 2, 10}, {8, 8, 10}};
        for (int[] n : wrong) {
            String call = "rank(" + n[0] + ", " + n[1] + ", " + n[2] + ")";
            check.due(call, Twins.rich().rank(n[0], n[1], n[2]), -1);
            unchanged(call, y -> y.rank(n[0], n[1], n[2]));
        }
        for (int wild : WILD) {
            unchanged("rank of " + wild, y -> y.rank(wild, 2, 5));
            unchanged("rank with " + wild, y -> y.rank(3, wild, 5));
            unchanged("rank told " + wild, y -> y.rank(3, 2, wild));
        }
    }

    private void wish() {
        check.of("Promise 21", "An OWNER WISHES (a number; -1000000 takes it back): true;");
        ThingPost x = new ThingPost();
        x.field(1, 2, -5, 5, 0);
        x.thing(1, 7);
        check.due("the least", x.wish(7, 0, 2, -5), true);
        check.due("wished", x.wished(0, 2, 0), -5);
        check.due("the most", x.wish(7, 0, 2, 5), true);
        check.due("wished", x.wished(0, 2, 0), 5);
        check.due("taken back", x.wish(7, 0, 2, NO), true);
        check.due("wished", x.wished(0, 2, 0), NO);
        check.due("the other owner", x.wish(0, 0, 2, 0), true);
        check.due("taken back, with rank 0", x.wish(0, 0, 2, NO), true);
    }

    private void refusedWish() {
        check.of("Promise 21", "false, and nothing happens, if something is not as told (also beyond LEAST and MOST), or if"
            + " there is none to take back.");
        int[][] wrong = {{-1, 0, 0, 1}, {8, 0, 0, 1}, {2, -1, 0, 1}, {2, 4, 0, 1}, {2, 0, -1, 1}, {2, 0, 3, 1},
            {2, 0, 0, -51}, {2, 0, 0, 51}, {3, 1, 0, -1}, {3, 1, 0, 21}, {2, 0, 2, 1}, {2, 0, 2, -1}, {2, 0, 0, -999999},
            {2, 0, 0, -1000001}, {3, 0, 0, NO}, {2, 0, 1, NO}, {2, 3, 0, NO}, {8, 0, 0, NO}, {2, 4, 0, NO},
            {2, 0, 3, NO}};
        for (int[] n : wrong) {
            String call = "wish(" + n[0] + ", " + n[1] + ", " + n[2] + ", " + n[3] + ")";
            check.due(call, Twins.rich().wish(n[0], n[1], n[2], n[3]), false);
            unchanged(call, y -> y.wish(n[0], n[1], n[2], n[3]));
        }
        for (int wild : WILD) {
            unchanged("wish of " + wild, y -> y.wish(wild, 0, 0, 1));
            unchanged("wish for thing " + wild, y -> y.wish(2, wild, 0, 1));
            unchanged("wish for field " + wild, y -> y.wish(2, 0, wild, 1));
            if (wild != NO && wild != -2) {
                unchanged("wish for " + wild, y -> y.wish(2, 0, 0, wild));
            }
        }
        ThingPost x = Twins.rich();
        check.due("one to take back", x.wish(2, 0, 0, NO), true);
        check.due("none is left", x.wish(2, 0, 0, NO), false);
    }

    private void wished() {
        check.of("Promise 22", "WISHED of a FIELD what 0: the number (-1000000: none), 1: the OWNER (NONE), 2: 1 if APART,"
            + " else 0.");
        ThingPost x = new ThingPost();
        x.field(0, 2, 0, 9, 0);
        x.thing(0, 6);
        check.due("none", x.wished(0, 2, 0), NO);
        check.due("of none", x.wished(0, 2, 1), -1);
        check.due("not apart", x.wished(0, 2, 2), 0);
        x.wish(6, 0, 2, 9);
        check.due("the number", x.wished(0, 2, 0), 9);
        check.due("the owner", x.wished(0, 2, 1), 6);
        check.due("not apart, as nothing is said", x.wished(0, 2, 2), 0);
        x.word(0, 1, 0, 9, 9, 8);
        check.due("apart", x.wished(0, 2, 2), 1);
        x.word(0, 2, 0, NO, NO, 9);
        check.due("not apart, as it is so", x.wished(0, 2, 2), 0);

        check.of("Promise 22", "-1000000 without these, or for another what.");
        for (int what = 0; what < 3; what++) {
            check.due("thing 1, what " + what, x.wished(1, 2, what), NO);
            check.due("thing -1, what " + what, x.wished(-1, 2, what), NO);
            check.due("field 3, what " + what, x.wished(0, 3, what), NO);
            check.due("field -1, what " + what, x.wished(0, -1, what), NO);
        }
        check.due("what 3", x.wished(0, 2, 3), NO);
        check.due("what -1", x.wished(0, 2, -1), NO);
        for (int wild : WILD) {
            check.due("thing " + wild, x.wished(wild, 2, 1), NO);
            check.due("field " + wild, x.wished(0, wild, 1), NO);
            check.due("what " + wild, x.wished(0, 2, wild), NO);
        }
    }

    private void order() {
        check.of("Promise 23", "An ORDER by a hand, until a TICK (NOW or later): its number; NONE: there are 200, or something"
            + " is not as told.");
        ThingPost x = Check.withThings(2);
        Check.ticks(x, 5);
        check.due("until NOW", x.order(0, 1, 5), 0);
        check.due("until one ahead of NOW", x.order(0, 1, 4), -1);
        check.due("until the last tick", x.order(1, 60, 3999), 1);
        check.due("until one behind it", x.order(1, 60, 4000), -1);
        check.due("number 0", x.order(0, 0, 5), -1);
        check.due("number 61", x.order(0, 61, 5), -1);
        check.due("thing 2", x.order(2, 1, 5), -1);
        check.due("thing -1", x.order(-1, 1, 5), -1);
        for (int i = 2; i < 200; i++) {
            check.due("order " + i, x.order(0, 1, 5), i);
        }
        check.due("there are 200", x.order(0, 1, 5), -1);
        check.due("orders", x.count(5), 200);
        x.wake(0);
        x.answer(0, true);
        check.due("there are 200, though one is done", x.order(0, 1, 5), -1);
        for (int wild : WILD) {
            unchanged("order to " + wild, y -> y.order(wild, 1, 9));
            unchanged("order of number " + wild, y -> y.order(0, wild, 9));
            unchanged("order until " + wild, y -> y.order(0, 1, wild));
        }
    }

    private void wake() {
        check.of("Promise 24", "A THING wakes: how many ORDERS it is SENT; NONE without it.");
        ThingPost x = Check.withThings(2);
        check.due("no orders", x.wake(0), 0);
        x.order(0, 1, 0);
        x.order(1, 1, 0);
        check.due("one", x.wake(0), 1);
        check.due("again", x.wake(0), 1);
        x.order(0, 1, 1);
        check.due("two", x.wake(0), 2);
        x.tick();
        check.due("one is not known", x.wake(0), 1);
        x.tick();
        check.due("none", x.wake(0), 0);
        check.due("one was over when it woke", x.wake(1), 0);
        check.due("thing 2", x.wake(2), -1);
        check.due("thing -1", x.wake(-1), -1);
        for (int wild : WILD) {
            check.due("thing " + wild, x.wake(wild), -1);
        }
        ThingPost y = Check.withThings(1);
        for (int i = 0; i < 200; i++) {
            y.order(0, 1, 0);
        }
        check.due("two hundred", y.wake(0), 200);
    }

    private void answer() {
        check.of("Promise 25", "It answers an ORDER that was SENT (or is NOT KNOWN): true; false, and nothing happens, for"
            + " others.");
        ThingPost x = Check.withThings(1);
        check.due("no order", x.answer(0, true), false);
        x.order(0, 1, 0);
        x.order(0, 1, 1);
        check.due("one that waits", x.answer(0, true), false);
        x.wake(0);
        x.order(0, 1, 0);
        x.order(0, 1, 9);
        x.tick();
        check.due("one that is not known", x.answer(0, true), true);
        check.due("one that was sent", x.answer(1, false), true);
        check.due("one that did", x.answer(0, false), false);
        check.due("one that failed", x.answer(1, true), false);
        check.due("one that is over", x.answer(2, true), false);
        check.due("one that waits", x.answer(3, true), false);
        int[] states = {2, 3, 4, 0};
        for (int i = 0; i < 4; i++) {
            check.due("state of order " + i, x.orders(i, 3), states[i]);
        }
        for (int order : new int[] {4, -1, 199, 200, 1000000, Integer.MIN_VALUE, Integer.MAX_VALUE}) {
            check.due("order " + order, x.answer(order, true), false);
        }
        // In the rich object ORDERS 0 and 2 were sent, 1 and 3 wait.
        unchanged("answer to one that waits", y -> y.answer(1, true));
        unchanged("answer to another one that waits", y -> y.answer(3, false));
        unchanged("answer to no order", y -> y.answer(4, false));
        unchanged("answer to order -1", y -> y.answer(-1, false));
        Twins.unchanged(check, () -> answered(true), "second answer", y -> y.answer(2, false));
        Twins.unchanged(check, () -> answered(false), "second answer of one that failed", y -> y.answer(2, true));
    }

    private static ThingPost answered(boolean did) {
        ThingPost x = Twins.rich();
        x.answer(2, did);
        return x;
    }

    private void orders() {
        check.of("Promise 26", "Of an ORDER what 0: the THING, 1: its number N, 2: until, 3: 0 to 5 as in III, 4: how often it"
            + " was SENT.");
        ThingPost x = Check.withThings(2);
        x.order(1, 60, 3999);
        x.order(0, 1, 0);
        x.order(1, 33, 0);
        x.wake(1);
        x.wake(1);
        x.answer(2, false);
        x.tick();
        int[][] due = {{1, 60, 3999, 1, 2}, {0, 1, 0, 4, 0}, {1, 33, 0, 3, 2}};
        for (int k = 0; k < 3; k++) {
            for (int what = 0; what < 5; what++) {
                check.due("orders(" + k + ", " + what + ")", x.orders(k, what), due[k][what]);
            }
        }

        check.of("Promise 26", "NONE without it, or for another what.");
        check.due("what 5", x.orders(0, 5), -1);
        check.due("what -1", x.orders(0, -1), -1);
        check.due("order 3", x.orders(3, 0), -1);
        check.due("order -1", x.orders(-1, 0), -1);
        check.due("of a new object", new ThingPost().orders(0, 0), -1);
        for (int wild : WILD) {
            check.due("what " + wild, x.orders(0, wild), -1);
            check.due("order " + wild, x.orders(wild, 0), -1);
        }
    }
}
