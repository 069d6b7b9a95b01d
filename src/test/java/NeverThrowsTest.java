/** Wild calls, also far beyond 512 of one object: nothing is thrown, and the same calls always answer the same. */
public final class NeverThrowsTest {
    private static final int[] EDGES = {0, 1, 2, 3, 5, 7, 8, 9, 11, 12, 19, 20, 39, 40, 50, 59, 60, 61, 119, 120, 180, 199,
        200, 201, 299, 300, 399, 400, 500, 501, 999, 1000, 1001, 3998, 3999, 4000, 9999, 10000, 10001, 20000, 99999,
        100000, 100001, 999999, 1000000, 1000000000, 1000000001, Integer.MAX_VALUE};
    private static final String SIGNS = "when t0.f1>=-3 and [not max t1.f0 5<2 or age t2=0] for 2 unless min t3.f2 60 = 7 : wish order ";
    private long state;

    private NeverThrowsTest(long seed) {
        state = seed;
    }

    public static void main(String[] args) {
        for (int seed = 1; seed <= 40; seed++) {
            long once = new NeverThrowsTest(seed).run(seed % 4 == 0 ? 20000 : 512);
            long again = new NeverThrowsTest(seed).run(seed % 4 == 0 ? 20000 : 512);
            if (once != again) {
                System.out.println("run " + seed + " answered differently");
                System.exit(1);
            }
        }
        System.out.println("nothing was thrown");
    }

    private int below(int n) {
        state ^= state << 13;
        state ^= state >>> 7;
        state ^= state << 17;
        return (int) Long.remainderUnsigned(state, n);
    }

    private int any() {
        int pick = below(10);
        if (pick < 6) {
            return below(10);
        }
        int edge = EDGES[below(EDGES.length)];
        return pick < 8 ? edge : pick == 8 ? -edge : (int) state;
    }

    private int bytes() {
        int number = 0;
        int at = below(SIGNS.length());
        for (int i = 0; i < 4; i++) {
            number = number << 8 | (below(20) == 0 ? below(256) : SIGNS.charAt((at + i) % SIGNS.length()));
        }
        return number;
    }

    private void type(ThingPost x) {
        String[] texts = {"when t0.f0<5 : wish t1.f0=1", "when t1.f0>=1 : wish t0.f0=9", "when age t0 < 4 for 2 : order t0 5",
            "when not max t0.f0 5 > 3 unless t0.f0=1 : wish t0.f1=-5", "when t1.f0<1or t1.f1=3 : wish t1.f0=7"};
        Check.type(x, texts[below(texts.length)]);
    }

    private long run(int calls) {
        ThingPost x = new ThingPost();
        for (int i = 0; i < 3; i++) {
            x.thing(i, i);
        }
        long sum = 0;
        for (int i = 0; i < calls; i++) {
            if (below(12) == 0) {
                x.end(0);
                type(x);
                sum = sum * 31 + x.rule(below(8));
            }
            int which = below(41);
            long got = which < 21 ? first(x, which) : second(x, which);
            sum = sum * 31 + got;
        }
        return sum;
    }

    private static int of(boolean is) {
        return is ? 1 : 0;
    }

    private long first(ThingPost x, int which) {
        boolean is = below(2) == 0;
        switch (which) {
            case 0: return of(x.field(any(), any(), any(), any(), any()));
            case 1: return of(x.kind(any(), any(), any()));
            case 2: return x.thing(any(), any());
            case 3: return x.tick();
            case 4: return x.word(any(), any(), any(), any(), any(), below(3) == 0 ? Check.NOTHING : any());
            case 5: return x.words(any(), any());
            case 6: return of(x.set(any(), any()));
            case 7: return x.missed(any(), any());
            case 8: return of(x.giveUp(any(), any()));
            case 9: return x.forget(any());
            case 10: return x.said(any(), any(), any(), any());
            case 11: return x.guess(any(), any(), any(), any(), any());
            case 12: return x.feed(bytes(), bytes(), bytes(), bytes(), bytes());
            case 13: return x.end(any());
            case 14: return x.rule(any());
            case 15: return of(x.force(any(), is));
            case 16: return x.held(any(), any(), any());
            case 17: return x.acts(any(), any());
            case 18: return x.rank(any(), any(), any());
            case 19: return of(x.wish(any(), any(), any(), below(3) == 0 ? Check.NOTHING : any()));
            default: return x.wished(any(), any(), any());
        }
    }

    private long second(ThingPost x, int which) {
        boolean is = below(2) == 0;
        switch (which) {
            case 21: return x.order(any(), any(), any());
            case 22: return x.wake(any());
            case 23: return of(x.answer(any(), is));
            case 24: return x.orders(any(), any());
            case 25: return x.pulls(any(), any());
            case 26: return x.ring();
            case 27: return x.shown(any(), any());
            case 28: return x.question(any(), below(2) == 0 ? any() : state, any());
            case 29: return x.width(any(), any());
            case 30: return x.ask(any());
            case 31: return x.asked();
            case 32: return of(x.join(any(), any()));
            case 33: return of(x.odds(any(), any(), any()));
            case 34: return of(x.begin(any(), any()));
            case 35: return of(x.report(any(), is));
            case 36: return x.worse(any());
            case 37: return x.stop(any());
            case 38: return x.back(any());
            case 39: return x.things(any(), any());
            default: return x.count(any());
        }
    }
}
