/** Promises 20 to 26: ranks, wishes and orders. */
public final class WishesTest {
    private static final int NO = Check.NOTHING;
    private static final Check check = new Check();

    public static void main(String[] args) {
        ranks();
        wrongWishes();
        wishesByRank();
        apart();
        wrongOrders();
        ordersAreSent();
        ordersEnd();
        mostOrders();
        check.end();
    }

    private static void ranks() {
        ThingPost x = new ThingPost();
        check.due("rank with himself", x.rank(3, 3, 9), 1);
        check.due("rank with himself, told", x.rank(3, 3, 0), 9);
        check.due("rank with another", x.rank(3, 4, 5), 0);
        check.due("rank the other way", x.rank(4, 3, 5), 0);
        check.due("rank told", x.rank(3, 4, 0), 5);
        check.due("rank 10", x.rank(3, 4, 10), -1);
        check.due("rank -1", x.rank(3, 4, -1), -1);
        check.due("owner 8", x.rank(8, 4, 1), -1);
        check.due("owner -1", x.rank(-1, 4, 1), -1);
        check.due("with 8", x.rank(0, 8, 1), -1);
        check.due("with -1", x.rank(0, -1, 1), -1);
        check.due("nothing happened", x.rank(3, 4, 0), 0);
    }

    private static void wrongWishes() {
        ThingPost x = new ThingPost();
        x.field(2, 1, -5, 5, 0);
        check.due("wish no thing", x.wish(0, 0, 1, 0), false);
        x.thing(2, 0);
        check.due("wish owner 8", x.wish(8, 0, 1, 0), false);
        check.due("wish owner -1", x.wish(-1, 0, 1, 0), false);
        check.due("wish field 3", x.wish(0, 0, 3, 0), false);
        check.due("wish field -1", x.wish(0, 0, -1, 0), false);
        check.due("wish thing -1", x.wish(0, -1, 1, 0), false);
        check.due("wish beyond most", x.wish(0, 0, 1, 6), false);
        check.due("wish below least", x.wish(0, 0, 1, -6), false);
        check.due("wish almost none", x.wish(0, 0, 1, -999999), false);
        check.due("none to take back", x.wish(0, 0, 1, NO), false);
        check.due("nothing wished", x.wished(0, 1, 0), NO);
        check.due("nothing wished, by", x.wished(0, 1, 1), -1);
        check.due("nothing wished, apart", x.wished(0, 1, 2), 0);
        check.due("wished what 3", x.wished(0, 1, 3), NO);
        check.due("wished what -1", x.wished(0, 1, -1), NO);
        check.due("wished field 3", x.wished(0, 3, 1), NO);
        check.due("wished thing 1", x.wished(1, 1, 1), NO);
        check.due("wished thing -1", x.wished(-1, 1, 1), NO);
        check.due("wish most", x.wish(0, 0, 1, 5), true);
        check.due("wish least", x.wish(0, 0, 1, -5), true);
        check.due("the latest", x.wished(0, 1, 0), -5);
        check.due("another field", x.wished(0, 0, 0), NO);
        check.due("take back", x.wish(0, 0, 1, NO), true);
        check.due("none, as the latest is taken back", x.wished(0, 1, 0), NO);
        check.due("take back again", x.wish(0, 0, 1, NO), false);
    }

    private static void wishesByRank() {
        ThingPost x = new ThingPost();
        x.field(0, 0, 0, 100, 0);
        x.thing(0, 2);
        check.due("noted with rank 0", x.wish(5, 0, 0, 50), true);
        check.due("does not count", x.wished(0, 0, 0), NO);
        x.wish(2, 0, 0, 20);
        check.due("his own", x.wished(0, 0, 1), 2);
        x.rank(5, 2, 1);
        check.due("of one rank the latest told", x.wished(0, 0, 0), 20);
        x.wish(5, 0, 0, 51);
        check.due("told again", x.wished(0, 0, 0), 51);
        x.wish(2, 0, 0, 21);
        check.due("and again", x.wished(0, 0, 0), 21);
        x.rank(5, 2, 2);
        check.due("by rank", x.wished(0, 0, 0), 51);
        x.rank(2, 5, 9);
        check.due("rank with the thing's owner alone", x.wished(0, 0, 1), 5);
        x.wish(5, 0, 0, NO);
        check.due("taken back", x.wished(0, 0, 0), 21);
        x.rank(2, 2, 0);
        check.due("with rank 0 no more", x.wished(0, 0, 0), NO);
        check.due("with rank 0 it is there to take back", x.wish(2, 0, 0, NO), true);
        x.rank(0, 2, 3);
        x.rank(7, 2, 3);
        x.wish(7, 0, 0, 7);
        x.wish(0, 0, 0, 1);
        check.due("the latest of equals", x.wished(0, 0, 1), 0);
        x.field(0, 0, 50, 60, 0);
        check.due("stays as least and most change", x.wished(0, 0, 0), 1);
        lastOfAll();
    }

    private static void lastOfAll() {
        ThingPost x = new ThingPost();
        for (int i = 0; i < 40; i++) {
            x.thing(7, 7);
        }
        x.field(7, 2, 0, 9, 0);
        check.due("owner 7, thing 39, field 2", x.wish(7, 39, 2, 9), true);
        check.due("wished", x.wished(39, 2, 0), 9);
        check.due("wished by", x.wished(39, 2, 1), 7);
        check.due("rank of 7 with 7", x.rank(7, 7, 0), 1);
        check.due("rank of 0 with 7", x.rank(0, 7, 9), 0);
        check.due("wish of owner 0", x.wish(0, 39, 2, 8), true);
        check.due("wished by owner 0", x.wished(39, 2, 1), 0);
    }

    private static void apart() {
        ThingPost x = new ThingPost();
        x.field(0, 0, 0, 100, 0);
        x.thing(0, 0);
        x.wish(0, 0, 0, 10);
        check.due("nothing said", x.wished(0, 0, 2), 0);
        x.word(0, 1, 0, 11, NO, NO);
        check.due("unlike", x.wished(0, 0, 2), 1);
        x.word(0, 2, 0, 10, NO, NO);
        check.due("alike", x.wished(0, 0, 2), 0);
        x.wish(0, 0, 0, 11);
        check.due("unlike again", x.wished(0, 0, 2), 1);
        x.forget(0);
        check.due("forgotten", x.wished(0, 0, 2), 0);
        x.word(0, 3, 0, 12, NO, NO);
        x.wish(0, 0, 0, NO);
        check.due("not wished", x.wished(0, 0, 2), 0);
        x.wish(1, 0, 0, 11);
        check.due("wished by rank 0", x.wished(0, 0, 2), 0);
    }

    private static void wrongOrders() {
        ThingPost x = new ThingPost();
        check.due("order to no thing", x.order(0, 1, 0), -1);
        check.due("wake no thing", x.wake(0), -1);
        x.thing(0, 0);
        x.tick();
        check.due("order 0", x.order(0, 0, 1), -1);
        check.due("order 61", x.order(0, 61, 1), -1);
        check.due("order until 0", x.order(0, 1, 0), -1);
        check.due("order until 4000", x.order(0, 1, 4000), -1);
        check.due("order thing -1", x.order(-1, 1, 1), -1);
        check.due("wake -1", x.wake(-1), -1);
        check.due("wake, no orders", x.wake(0), 0);
        check.due("answer no order", x.answer(0, true), false);
        check.due("order ordinary", x.order(0, 60, 1), 0);
        check.due("order until the end", x.order(0, 1, 3999), 1);
        check.due("orders(0, 0)", x.orders(0, 0), 0);
        check.due("orders(0, 1)", x.orders(0, 1), 60);
        check.due("orders(0, 2)", x.orders(0, 2), 1);
        check.due("orders(0, 3)", x.orders(0, 3), 0);
        check.due("orders(0, 4)", x.orders(0, 4), 0);
        check.due("orders(0, 5)", x.orders(0, 5), -1);
        check.due("orders(0, -1)", x.orders(0, -1), -1);
        check.due("orders(2, 0)", x.orders(2, 0), -1);
        check.due("orders(-1, 0)", x.orders(-1, 0), -1);
        check.due("answer what was not sent", x.answer(0, true), false);
        check.due("answer -1", x.answer(-1, true), false);
        check.due("answer 2", x.answer(2, true), false);
    }

    private static void state(ThingPost x, int order, int state, int times) {
        check.due("state of order " + order, x.orders(order, 3), state);
        check.due("times of order " + order, x.orders(order, 4), times);
    }

    private static void ordersAreSent() {
        ThingPost x = new ThingPost();
        x.thing(0, 0);
        x.thing(0, 0);
        x.order(0, 1, 100);
        x.order(1, 2, 100);
        x.order(0, 3, 100);
        check.due("two sent", x.wake(0), 2);
        state(x, 0, 1, 1);
        state(x, 1, 0, 0);
        state(x, 2, 1, 1);
        check.due("did", x.answer(0, true), true);
        check.due("did, again", x.answer(0, false), false);
        state(x, 0, 2, 1);
        check.due("one sent again", x.wake(0), 1);
        state(x, 2, 1, 2);
        x.word(0, 5, 0, NO, NO, NO);
        state(x, 2, 1, 3);
        state(x, 0, 2, 1);
        x.word(0, 5, 0, NO, NO, NO);
        state(x, 2, 1, 3);
        x.word(0, 6, -1, NO, NO, NO);
        state(x, 2, 1, 3);
        x.word(1, 5, 0, NO, NO, NO);
        state(x, 1, 1, 1);
        check.due("failed", x.answer(2, false), true);
        state(x, 2, 3, 3);
        check.due("none left", x.wake(0), 0);
    }

    private static void ordersEnd() {
        ThingPost x = new ThingPost();
        x.thing(0, 0);
        x.order(0, 1, 1);
        x.order(0, 2, 2);
        x.tick();
        check.due("at its last tick", x.wake(0), 2);
        x.order(0, 3, 1);
        state(x, 2, 0, 0);
        x.tick();
        state(x, 0, 5, 1);
        state(x, 1, 1, 1);
        state(x, 2, 4, 0);
        check.due("over is not sent, nor not known", x.wake(0), 1);
        state(x, 0, 5, 1);
        state(x, 1, 1, 2);
        check.due("answers what is not known", x.answer(0, false), true);
        state(x, 0, 3, 1);
        check.due("answers what is over", x.answer(2, true), false);
        x.answer(1, true);
        x.tick();
        state(x, 0, 3, 1);
        state(x, 1, 2, 2);
        x.order(0, 4, 3);
        x.wake(0);
        x.tick();
        check.due("did, though not known", x.answer(3, true), true);
        state(x, 3, 2, 1);
        check.due("answered", x.answer(3, true), false);
    }

    private static void mostOrders() {
        ThingPost x = new ThingPost();
        x.thing(0, 0);
        for (int i = 0; i < 200; i++) {
            check.due("order " + i, x.order(0, i % 60 + 1, 0), i);
        }
        check.due("order 200", x.order(0, 1, 0), -1);
        check.due("200 sent", x.wake(0), 200);
        check.due("count of orders", x.count(5), 200);
    }
}
