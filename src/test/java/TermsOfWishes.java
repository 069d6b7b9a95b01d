/** The edges that part III of the terms names: ranks, wishes, APART, and orders. */
final class TermsOfWishes {
    private static final int NO = Check.NOTHING;
    private static final String PART = "Terms III";
    private final Check check;

    TermsOfWishes(Check check) {
        this.check = check;
    }

    void run() {
        ranks();
        wishFromOneOn();
        greatestRank();
        latestTold();
        takenBack();
        apart();
        orders();
        states();
        untils();
        answersOfTheUnknown();
        wakes();
        wakesByWords();
    }

    private void of(String words) {
        check.of(PART, words);
    }

    private void ranks() {
        of("RANK (0 to 9) of an OWNER with another one or himself (1 with himself, 0 else, until told):");
        ThingPost x = new ThingPost();
        for (int owner = 0; owner < 8; owner++) {
            for (int with = 0; with < 8; with++) {
                check.due("rank of " + owner + " with " + with, x.rank(owner, with, 9), owner == with ? 1 : 0);
            }
        }
        check.due("told 9", x.rank(2, 5, 10), -1);
        check.due("10 was refused", x.rank(2, 5, -1), -1);
        check.due("-1 was refused", x.rank(2, 5, 0), 9);
        check.due("told 0", x.rank(2, 5, 1), 0);
        check.due("the other way round", x.rank(5, 2, 1), 9);
        check.due("with himself, told", x.rank(7, 7, 0), 9);
    }

    private static ThingPost ready() {
        ThingPost x = new ThingPost();
        for (int field = 0; field < 3; field++) {
            x.field(0, field, 0, 99, 0);
        }
        x.thing(0, 4);
        x.thing(0, 5);
        return x;
    }

    private void wished(ThingPost x, int number, int owner) {
        check.due("wished", x.wished(0, 0, 0), number);
        check.due("wished by", x.wished(0, 0, 1), owner);
    }

    private void wishFromOneOn() {
        of("WISH from 1 on (told with 0 it is noted, and counts as the RANK is 1 or more).");
        ThingPost x = ready();
        wished(x, NO, -1);
        check.due("told with rank 0", x.wish(2, 0, 0, 20), true);
        wished(x, NO, -1);
        x.rank(2, 4, 1);
        wished(x, 20, 2);
        x.rank(2, 4, 0);
        wished(x, NO, -1);
        x.rank(2, 4, 9);
        wished(x, 20, 2);
        x.wish(4, 1, 0, 30);
        check.due("his rank with himself is none with another one", x.wished(1, 0, 0), NO);
    }

    private void greatestRank() {
        of("of the latest WISHES of each OWNER for it the one of the OWNER with the greatest RANK with the THING's OWNER"
            + " (now; those with 0 do not count)");
        ThingPost x = ready();
        x.rank(1, 4, 8);
        x.rank(2, 4, 9);
        x.wish(2, 0, 0, 20);
        x.wish(1, 0, 0, 10);
        x.wish(4, 0, 0, 40);
        wished(x, 20, 2);
        x.wish(2, 0, 0, 21);
        x.wish(1, 0, 0, 11);
        wished(x, 21, 2);
        x.rank(2, 4, 7);
        wished(x, 11, 1);
        x.rank(1, 4, 0);
        wished(x, 21, 2);
        x.rank(2, 4, 0);
        wished(x, 40, 4);
        x.rank(4, 4, 0);
        wished(x, NO, -1);
        x.rank(4, 2, 9);
        wished(x, NO, -1);
        x.rank(2, 5, 9);
        wished(x, NO, -1);
        check.due("of another field", x.wished(0, 1, 0), NO);
    }

    private void latestTold() {
        of("of several the latest told;");
        ThingPost x = ready();
        for (int owner = 0; owner < 8; owner++) {
            x.rank(owner, 4, 1);
        }
        x.wish(7, 0, 0, 70);
        x.wish(0, 0, 0, 1);
        wished(x, 1, 0);
        x.wish(3, 0, 0, 30);
        wished(x, 30, 3);
        x.wish(7, 0, 0, 70);
        wished(x, 70, 7);
        x.wish(3, 0, 1, 31);
        x.wish(3, 1, 0, 32);
        wished(x, 70, 7);
        Check.rule(x, 2, "when not t0.f0=9:wish t0.f0=500");
        x.tick();
        wished(x, 500, 2);
        x.wish(7, 0, 0, 71);
        wished(x, 71, 7);
    }

    private void takenBack() {
        of("a WISH can be taken back.");
        ThingPost x = ready();
        x.rank(3, 4, 9);
        check.due("none to take back", x.wish(4, 0, 0, NO), false);
        x.wish(4, 0, 0, 40);
        x.wish(3, 0, 0, 30);
        x.wish(3, 0, 0, 31);
        check.due("of another field", x.wish(3, 0, 1, NO), false);
        check.due("of another thing", x.wish(3, 1, 0, NO), false);
        check.due("of another owner", x.wish(2, 0, 0, NO), false);
        wished(x, 31, 3);
        check.due("taken back", x.wish(3, 0, 0, NO), true);
        wished(x, 40, 4);
        check.due("taken back already", x.wish(3, 0, 0, NO), false);
        check.due("the other one", x.wish(4, 0, 0, NO), true);
        wished(x, NO, -1);
        x.wish(3, 0, 0, 0);
        wished(x, 0, 3);
    }

    private void apart(ThingPost x, int want) {
        check.due("apart", x.wished(0, 0, 2), want);
    }

    private void apart() {
        of("APART: it is WISHED, SAID NOW as KNOWN NOW, and these are unlike.");
        ThingPost x = ready();
        x.kind(0, 500, 0);
        Check.ticks(x, 10);
        apart(x, 0);
        x.wish(4, 0, 0, 10);
        apart(x, 0);
        x.word(0, 1, 4, 11, NO, NO);
        apart(x, 1);
        x.wish(4, 0, 0, 11);
        apart(x, 0);
        x.word(0, 2, 4, 12, NO, NO);
        apart(x, 1);
        x.wish(4, 0, 0, NO);
        apart(x, 0);
        x.wish(3, 0, 0, 10);
        apart(x, 0);
        x.rank(3, 4, 1);
        apart(x, 1);
        x.forget(0);
        apart(x, 0);
        x.word(0, 3, 4, NO, 10, 10);
        apart(x, 0);
        x.word(1, 1, 4, 99, 99, 99);
        apart(x, 0);
        x.wish(3, 0, 0, 0);
        x.word(0, 4, 4, 0, NO, NO);
        apart(x, 0);
    }

    private void orders() {
        of("ORDERS 0 to 199, to a THING, a number N (1 to 60), until a TICK:");
        ThingPost x = ready();
        x.tick();
        check.due("nothing there yet", x.orders(0, 0), -1);
        check.due("number 0", x.order(0, 0, 1), -1);
        check.due("number 61", x.order(0, 61, 1), -1);
        check.due("until a tick ahead of NOW", x.order(0, 1, 0), -1);
        check.due("until 4000", x.order(0, 1, 4000), -1);
        check.due("to thing 2", x.order(2, 1, 1), -1);
        check.due("none was given", x.count(5), 0);
        for (int i = 0; i < 200; i++) {
            check.due("order " + i, x.order(i % 2, i % 2 == 0 ? 1 : 60, i % 2 == 0 ? 1 : 3999), i);
        }
        check.due("order 200", x.order(0, 1, 1), -1);
        check.due("orders", x.count(5), 200);
        check.due("thing of order 199", x.orders(199, 0), 1);
        check.due("number of order 199", x.orders(199, 1), 60);
        check.due("until of order 199", x.orders(199, 2), 3999);
        check.due("thing of order 200", x.orders(200, 0), -1);
        check.due("thing of order -1", x.orders(-1, 0), -1);
    }

    private void state(ThingPost x, int order, int want) {
        check.due("state of order " + order, x.orders(order, 3), want);
    }

    private void states() {
        of("they WAIT (0), are SENT (1) when the THING wakes, DID (2) or FAILED (3) when it answers;");
        ThingPost x = ready();
        x.order(0, 1, 100);
        x.order(0, 2, 100);
        x.order(1, 3, 100);
        state(x, 0, 0);
        check.due("one that waits answers nothing", x.answer(0, true), false);
        state(x, 0, 0);
        x.wake(0);
        state(x, 0, 1);
        state(x, 1, 1);
        state(x, 2, 0);
        check.due("did", x.answer(0, true), true);
        check.due("failed", x.answer(1, false), true);
        state(x, 0, 2);
        state(x, 1, 3);
        check.due("did, and answers again", x.answer(0, false), false);
        check.due("failed, and answers again", x.answer(1, true), false);
        state(x, 0, 2);
        state(x, 1, 3);
        Check.ticks(x, 101);
        state(x, 0, 2);
        state(x, 1, 3);
    }

    private void untils() {
        of("as soon as NOW is behind the TICK until which they are: one that WAITS is OVER (4), one that is SENT is NOT"
            + " KNOWN (5):");
        ThingPost x = ready();
        x.order(0, 1, 3);
        x.order(0, 1, 0);
        x.order(1, 1, 3);
        check.due("on its only tick it is sent", x.wake(0), 2);
        Check.ticks(x, 1);
        state(x, 1, 5);
        Check.ticks(x, 2);
        state(x, 0, 1);
        state(x, 2, 0);
        x.tick();
        state(x, 0, 5);
        state(x, 2, 4);
        check.due("one that is over is not sent", x.wake(1), 0);
        state(x, 2, 4);
        check.due("one that is not known is not sent again", x.wake(0), 0);
        state(x, 0, 5);
        check.due("how often", x.orders(0, 4), 1);
        check.due("one that is over answers nothing", x.answer(2, true), false);
        state(x, 2, 4);
    }

    private void answersOfTheUnknown() {
        of("an answer makes it DID or FAILED then, too.");
        ThingPost x = ready();
        x.order(0, 1, 0);
        x.order(0, 1, 0);
        x.wake(0);
        Check.ticks(x, 9);
        state(x, 0, 5);
        check.due("did", x.answer(0, true), true);
        check.due("failed", x.answer(1, false), true);
        state(x, 0, 2);
        state(x, 1, 3);
        check.due("once", x.answer(0, true), false);
    }

    private void wakes() {
        of("A THING that wakes is SENT all of its ORDERS that WAIT, and again all that are SENT (how often is counted);");
        ThingPost x = ready();
        check.due("no orders yet", x.wake(0), 0);
        x.order(0, 1, 9);
        x.order(1, 1, 9);
        x.order(0, 1, 9);
        check.due("two that wait", x.wake(0), 2);
        x.order(0, 1, 9);
        check.due("two that were sent, one that waits", x.wake(0), 3);
        x.answer(0, true);
        check.due("without the answered one", x.wake(0), 2);
        int[] times = {2, 0, 3, 2};
        for (int i = 0; i < 4; i++) {
            check.due("how often order " + i, x.orders(i, 4), times[i]);
        }
    }

    private void wakesByWords() {
        of("also with each of its WORDS.");
        ThingPost x = ready();
        x.order(0, 1, 9);
        x.word(1, 1, 0, 1, 1, 1);
        check.due("by another thing's word", x.orders(0, 4), 0);
        x.word(0, 0, 0, 1, 1, 1);
        check.due("by a word that is not taken", x.orders(0, 4), 0);
        x.word(0, 7, 0, NO, NO, NO);
        state(x, 0, 1);
        check.due("by a word", x.orders(0, 4), 1);
        x.word(0, 3, 0, 1, 1, 1);
        check.due("by a late word", x.orders(0, 4), 2);
    }
}
