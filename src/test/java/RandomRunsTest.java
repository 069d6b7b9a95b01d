/** Random runs of 512 calls, each answer compared with the Model's. The runs are the same each time. */
public final class RandomRunsTest {
    private static final int NO = Check.NOTHING;
    private final ThingPost post = new ThingPost();
    private final Model model = new Model();
    private final int seed;
    private final int mood;
    private long state;
    private int calls = 0;
    private int wrong = 0;
    private final StringBuilder log = new StringBuilder();

    private RandomRunsTest(int seed) {
        this.seed = seed;
        this.mood = seed % 6;
        state = seed * 0x9E3779B97F4A7C15L + 1;
    }

    public static void main(String[] args) {
        int runs = args.length > 0 ? Integer.parseInt(args[0]) : 1200;
        int wrong = 0;
        long calls = 0;
        for (int seed = 0; seed < runs && wrong < 3; seed++) {
            RandomRunsTest run = new RandomRunsTest(seed);
            run.go();
            calls += run.calls;
            wrong += run.wrong;
        }
        System.out.println(calls + " calls compared");
        if (wrong != 0) {
            System.exit(1);
        }
    }

    private int below(int n) {
        state ^= state << 13;
        state ^= state >>> 7;
        state ^= state << 17;
        return (int) Long.remainderUnsigned(state, n);
    }

    private boolean chance(int of) {
        return below(of) == 0;
    }

    private int from(int least, int most) {
        return least + below(most - least + 1);
    }

    /** Mostly a number from least to most, seldom one beyond. */
    private int about(int least, int most) {
        if (!chance(25)) {
            return from(least, most);
        }
        int[] odd = {least - 1, most + 1, -1, Integer.MIN_VALUE, Integer.MAX_VALUE, NO, least, most};
        return odd[below(odd.length)];
    }

    private void same(String call, long got, long want) {
        calls++;
        log.append(call).append(" -> ").append(got).append('\n');
        if (got != want) {
            wrong++;
            if (wrong == 1) {
                System.out.println("run " + seed + ", call " + calls + ": " + call + " answered " + got + ", the model " + want);
                String all = log.toString();
                System.out.println(all.length() > 6000 ? all.substring(all.length() - 6000) : all);
            }
        }
    }

    private void same(String call, boolean got, boolean want) {
        same(call, got ? 1 : 0, want ? 1 : 0);
    }

    private int aThing() {
        return about(0, Math.max(0, post.count(1) - 1));
    }

    private int aTick() {
        return chance(3) ? about(0, 3999) : about(Math.max(0, post.count(0) - 12), Math.min(3999, post.count(0) + 3));
    }

    private int aNumber() {
        return chance(6) ? NO : chance(8) ? about(-100000, 100000) : about(-2, 9);
    }

    private void go() {
        int kinds = from(1, 3);
        for (int i = 0; i < kinds * 3; i++) {
            field(i / 3, i % 3);
        }
        for (int i = from(2, 6); i > 0; i--) {
            thing();
        }
        while (calls < 512 && wrong == 0) {
            int pick = below(100);
            if (mood == 0) {
                words(pick);
            } else if (mood == 1) {
                rules(pick);
            } else if (mood == 2) {
                finding(pick);
            } else if (mood == 3) {
                questions(pick);
            } else if (mood == 4) {
                programs(pick);
            } else {
                anything(below(6), pick);
            }
        }
    }

    private void anything(int which, int pick) {
        switch (which) {
            case 0: words(pick); break;
            case 1: rules(pick); break;
            case 2: finding(pick); break;
            case 3: questions(pick); break;
            case 4: programs(pick); break;
            default: wishes(pick); break;
        }
    }

    private void field(int k, int f) {
        int least = chance(4) ? about(-100000, 100000) : about(-3, 3);
        int most = Math.min(least + (chance(5) ? from(0, 100000) : from(0, 8)), about(99999, 100000));
        int rate = chance(5) ? about(0, 10000) : about(0, 3);
        same("field(" + k + ", " + f + ", " + least + ", " + most + ", " + rate + ")",
            post.field(k, f, least, most, rate), model.field(k, f, least, most, rate));
    }

    private void thing() {
        int k = about(0, chance(5) ? 7 : 2);
        int o = about(0, chance(5) ? 7 : 2);
        same("thing(" + k + ", " + o + ")", post.thing(k, o), model.thing(k, o));
    }

    private void kind() {
        int k = about(0, 2);
        int drift = about(0, 500);
        int cost = chance(3) ? about(0, 9999) : about(0, 5);
        same("kind(" + k + ", " + drift + ", " + cost + ")", post.kind(k, drift, cost), model.kind(k, drift, cost));
    }

    private void tick() {
        same("tick()", post.tick(), model.tick());
    }

    private void word() {
        int t = aThing();
        int count = chance(12) ? about(1, 200) : about(1, Math.min(200, 3 + Math.max(0, post.things(t, 4))));
        int hour = chance(15) ? about(0, 3999) : Math.max(0, about(post.count(0) - 10, post.count(0) + 3));
        int a = aNumber();
        int b = aNumber();
        int c = aNumber();
        same("word(" + t + ", " + count + ", " + hour + ", " + a + ", " + b + ", " + c + ")",
            post.word(t, count, hour, a, b, c), model.word(t, count, hour, a, b, c));
        int w = post.count(2) - 1;
        for (int what = 4; what <= 7 && chance(3); what++) {
            same("words(" + w + ", " + what + ")", post.words(w, what), model.words(w, what));
        }
    }

    private void words(int pick) {
        int t = aThing();
        if (pick < 25) {
            word();
        } else if (pick < 35) {
            tick();
        } else if (pick < 40) {
            int at = about(0, post.count(0));
            same("set(" + t + ", " + at + ")", post.set(t, at), model.set(t, at));
        } else if (pick < 45) {
            kind();
        } else if (pick < 48) {
            field(below(3), below(3));
        } else if (pick < 50) {
            same("forget(" + t + ")", post.forget(t), model.forget(t));
        } else if (pick < 55) {
            int count = about(1, Math.max(1, post.things(t, 4)));
            same("giveUp(" + t + ", " + count + ")", post.giveUp(t, count), model.giveUp(t, count));
        } else if (pick < 63) {
            int k = about(-1, 6);
            same("missed(" + t + ", " + k + ")", post.missed(t, k), model.missed(t, k));
        } else if (pick < 78) {
            int f = about(0, 2);
            int at = aTick();
            int known = chance(2) ? post.count(0) : aTick();
            same("said(" + t + ", " + f + ", " + at + ", " + known + ")", post.said(t, f, at, known), model.said(t, f, at, known));
        } else if (pick < 90) {
            int f = about(0, 2);
            int at = aTick();
            int known = chance(2) ? post.count(0) : aTick();
            int part = about(0, 2);
            same("guess(" + t + ", " + f + ", " + at + ", " + known + ", " + part + ")",
                post.guess(t, f, at, known, part), model.guess(t, f, at, known, part));
        } else if (pick < 95) {
            int k = about(0, Math.max(0, post.count(2) - 1));
            int what = about(0, 8);
            same("words(" + k + ", " + what + ")", post.words(k, what), model.words(k, what));
        } else if (pick < 97) {
            int what = about(0, 6);
            same("things(" + t + ", " + what + ")", post.things(t, what), model.things(t, what));
        } else {
            int what = about(0, 7);
            same("count(" + what + ")", post.count(what), model.count(what));
        }
    }

    private String ref() {
        return "t" + below(Math.max(1, Math.min(post.count(1), chance(20) ? 42 : 4))) + ".f" + below(chance(40) ? 4 : 3);
    }

    private String sign() {
        return new String[] {"<", "<=", "=", ">=", ">"}[below(5)];
    }

    private String fact(int depth, boolean plain) {
        if (depth < 6 && chance(4)) {
            return "not " + fact(depth + 1, plain);
        }
        if (depth < 6 && chance(5)) {
            return "[" + test(depth + 1, plain) + "]";
        }
        int pick = plain ? 9 : below(8);
        String number = "" + from(-3, 9);
        if (pick == 0) {
            return "age t" + below(Math.max(1, post.count(1))) + sign() + from(0, 6);
        }
        if (pick == 1) {
            return "max " + ref() + " " + from(1, 8) + sign() + number;
        }
        if (pick == 2) {
            return "min " + ref() + " " + from(1, 8) + sign() + number;
        }
        return ref() + sign() + number;
    }

    private String test(int depth, boolean plain) {
        StringBuilder text = new StringBuilder(fact(depth, plain));
        while (chance(3)) {
            text.append(chance(2) ? " or " : " and ").append(fact(depth, plain));
        }
        return text.toString();
    }

    private String rule(boolean plain) {
        String text = "when " + test(0, plain);
        if (!plain && chance(3)) {
            text += " for " + from(1, 4);
        }
        if (chance(4)) {
            text += " unless " + test(0, plain);
        }
        boolean orders = !plain && chance(3);
        text += orders ? " : order t" + below(Math.max(1, post.count(1))) + " " + from(1, 60) : ": wish " + ref() + "=" + from(-3, 9);
        if (chance(12)) {
            text = text.replace(" ", "  ");
        }
        for (int i = below(12); i == 0; i = below(2)) {
            int at = below(text.length());
            String put = chance(2) ? "" : "" + "tfmor [].:=<>-019 anx\0".charAt(below(22));
            text = text.substring(0, at) + put + text.substring(Math.min(text.length(), at + below(3)));
        }
        return text.length() > 200 ? text.substring(0, 200) : text;
    }

    private void tell(boolean plain) {
        String text = rule(plain);
        for (int at = 0; at < text.length(); at += 20) {
            int[] five = new int[5];
            for (int i = 0; i < 20; i++) {
                five[i / 4] = five[i / 4] << 8 | (at + i < text.length() ? text.charAt(at + i) : 0);
            }
            same("feed", post.feed(five[0], five[1], five[2], five[3], five[4]), model.feed(five));
        }
        int end = chance(60) ? about(0, 200) : text.length();
        same("end(" + end + ")", post.end(end), model.end(end));
        int owner = about(0, 2);
        same("rule(" + owner + "), " + text, post.rule(owner), model.rule(owner));
    }

    private int aRule() {
        return about(0, Math.max(0, post.count(3) - 1));
    }

    private void rules(int pick) {
        if (pick < 12) {
            tell(chance(4));
        } else if (pick < 37) {
            tick();
        } else if (pick < 60) {
            word();
        } else if (pick < 64) {
            int k = aRule();
            boolean is = chance(2);
            same("force(" + k + ", " + is + ")", post.force(k, is), model.force(k, is));
        } else if (pick < 78) {
            int k = aRule();
            int at = aTick();
            int known = aTick();
            same("held(" + k + ", " + at + ", " + known + ")", post.held(k, at, known), model.held(k, at, known));
        } else if (pick < 92) {
            int k = about(0, Math.max(0, post.count(4) - 1));
            int what = about(0, 4);
            same("acts(" + k + ", " + what + ")", post.acts(k, what), model.acts(k, what));
        } else if (pick < 94) {
            wishes(below(100));
        } else {
            words(below(100));
        }
    }

    private void finding(int pick) {
        if (pick < 18) {
            tell(true);
        } else if (pick < 35) {
            int a = aRule();
            int b = aRule();
            same("pulls(" + a + ", " + b + ")", post.pulls(a, b), model.pulls(a, b));
        } else if (pick < 45) {
            same("ring()", post.ring(), model.ring());
        } else if (pick < 85) {
            int k = about(0, 5);
            int what = about(0, 3);
            same("shown(" + k + ", " + what + ")", post.shown(k, what), model.shown(k, what));
        } else if (pick < 92) {
            int k = aRule();
            boolean is = chance(2);
            same("force(" + k + ", " + is + ")", post.force(k, is), model.force(k, is));
        } else {
            field(below(3), below(3));
        }
    }

    private void wishes(int pick) {
        int t = aThing();
        if (pick < 15) {
            int a = about(0, 2);
            int b = about(0, 2);
            int n = about(0, 4);
            same("rank(" + a + ", " + b + ", " + n + ")", post.rank(a, b, n), model.rank(a, b, n));
        } else if (pick < 35) {
            int o = about(0, 2);
            int f = about(0, 2);
            int n = chance(4) ? NO : about(-3, 9);
            same("wish(" + o + ", " + t + ", " + f + ", " + n + ")", post.wish(o, t, f, n), model.wish(o, t, f, n));
        } else if (pick < 55) {
            int f = about(0, 2);
            int what = about(0, 2);
            same("wished(" + t + ", " + f + ", " + what + ")", post.wished(t, f, what), model.wished(t, f, what));
        } else if (pick < 65) {
            int n = about(1, 60);
            int until = about(post.count(0), Math.min(3999, post.count(0) + 5));
            same("order(" + t + ", " + n + ", " + until + ")", post.order(t, n, until), model.order(t, n, until));
        } else if (pick < 75) {
            same("wake(" + t + ")", post.wake(t), model.wake(t));
        } else if (pick < 82) {
            int k = about(0, Math.max(0, post.count(5) - 1));
            boolean did = chance(2);
            same("answer(" + k + ", " + did + ")", post.answer(k, did), model.answer(k, did));
        } else if (pick < 95) {
            int k = about(0, Math.max(0, post.count(5) - 1));
            int what = about(0, 4);
            same("orders(" + k + ", " + what + ")", post.orders(k, what), model.orders(k, what));
        } else {
            tick();
        }
    }

    private void questions(int pick) {
        if (pick < 5) {
            int f = about(0, 2);
            long set = 0;
            for (int i = from(1, 4); i > 0; i--) {
                set |= 1L << below(Math.max(1, post.count(1)));
            }
            set = chance(20) ? state : set;
            int width = chance(4) ? about(0, 1000000000) : about(0, 30);
            same("question(" + f + ", " + set + ", " + width + ")", post.question(f, set, width), model.question(f, set, width));
        } else if (pick < 25) {
            int k = about(0, Math.max(0, post.count(6) - 1));
            int at = about(post.count(0), Math.min(3999, post.count(0) + 9));
            same("width(" + k + ", " + at + ")", post.width(k, at), model.width(k, at));
        } else if (pick < 45) {
            int at = chance(4) ? about(0, 3999) : about(post.count(0), Math.min(3999, post.count(0) + 9));
            same("ask(" + at + ")", post.ask(at), model.ask(at));
        } else if (pick < 55) {
            same("asked()", post.asked(), model.asked);
        } else if (pick < 57) {
            thing();
        } else if (pick < 70) {
            word();
        } else if (pick < 75) {
            kind();
        } else if (pick < 80) {
            field(below(3), below(3));
        } else {
            tick();
        }
    }

    private void programs(int pick) {
        int t = aThing();
        int r = about(0, chance(6) ? 7 : 3);
        if (pick < 10) {
            thing();
        } else if (pick < 25) {
            same("join(" + t + ", " + r + ")", post.join(t, r), model.join(t, r));
        } else if (pick < 30) {
            int b = about(1, chance(2) ? 1000 : 5);
            int a = about(0, Math.max(1, Math.min(b, 1000)));
            same("odds(" + r + ", " + a + ", " + b + ")", post.odds(r, a, b), model.odds(r, a, b));
        } else if (pick < 42) {
            int p = about(1, 999);
            same("begin(" + r + ", " + p + ")", post.begin(r, p), model.begin(r, p));
        } else if (pick < 65) {
            boolean did = !chance(3);
            same("report(" + t + ", " + did + ")", post.report(t, did), model.report(t, did));
        } else if (pick < 80) {
            same("worse(" + r + ")", post.worse(r), model.worse(r));
        } else if (pick < 81) {
            same("stop(" + r + ")", post.stop(r), model.stop(r));
        } else if (pick < 84) {
            same("back(" + r + ")", post.back(r), model.back(r));
        } else {
            int what = about(0, 6);
            same("things(" + t + ", " + what + ")", post.things(t, what), model.things(t, what));
        }
    }
}
