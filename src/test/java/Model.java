import java.math.BigInteger;
import java.util.ArrayList;
import java.util.Arrays;
import java.util.HashMap;
import java.util.List;
import java.util.Map;
import java.util.TreeMap;
import java.util.TreeSet;
import java.util.function.Function;

/** The document read a second time, as slowly and simply as can be, for RandomRunsTest to compare with. */
final class Model {
    static final int NO = -1000000;

    static final class Word { int thing, count, hour, came, from, to, outside; boolean late, forgotten; int[] n; }
    static final class Order { int thing, n, until, state, times; }
    static final class Act { int rule, tick, word, order; }
    static final class Fault extends RuntimeException {
        private static final long serialVersionUID = 1;
        final int code;
        Fault(int place, int why) { super(null, null, false, false); code = 1 + 8 * place + why; }
    }
    /** A value of a fact: 't' for a REF, or the first letter of max, min, age ('M', 'm', 'a'). */
    static final class Value { char kind; int thing, field, n, number; String sign; }
    interface Test { boolean at(Function<Value, Integer> values); }
    static final class Rule {
        int owner, told, lasting; boolean inForce = true, held;
        Test when, unless;
        List<Value> whenValues = new ArrayList<>(), unlessValues = new ArrayList<>();
        boolean wishes; int thing, field, number;
        List<Value> all() { List<Value> all = new ArrayList<>(whenValues); all.addAll(unlessValues); return all; }
        boolean plain() { return wishes && lasting == 0 && all().stream().allMatch(v -> v.kind == 't'); }
    }

    int now;
    int[][][] field = new int[8][3][3];
    int[][] kind = new int[8][2];
    List<int[]> things = new ArrayList<>();
    List<List<Integer>> sets = new ArrayList<>();
    List<TreeSet<Integer>> gaveUp = new ArrayList<>();
    List<Word> words = new ArrayList<>();
    List<Rule> rules = new ArrayList<>();
    List<Act> acts = new ArrayList<>();
    List<Order> orders = new ArrayList<>();
    StringBuilder tape = new StringBuilder();
    int[][] rank = new int[8][8];
    // Of each owner, thing and field: the number, and when it was told.
    Map<Integer, long[]> wishes = new HashMap<>();
    long turn;
    List<long[]> questions = new ArrayList<>();
    long asked = -1;
    int[] ringOf = new int[40], program = new int[40], ahead = new int[40], report = new int[40];
    int[] began = new int[8];
    boolean[] stopped = new boolean[8];
    int[][] odds = new int[8][];
    List<int[]> shownRefs = new ArrayList<>();
    List<Integer> shownRing = new ArrayList<>();

    Model() {
        for (int i = 0; i < 8; i++) { rank[i][i] = 1; odds[i] = new int[] {1, 20}; }
        Arrays.fill(ringOf, -1);
        Arrays.fill(report, -1);
    }

    static boolean in(long n, long a, long b) { return n >= a && n <= b; }
    boolean hasThing(int t) { return in(t, 0, things.size() - 1); }
    boolean tick(int t) { return in(t, 0, 3999); }
    int[] fieldOf(int thing, int f) { return field[things.get(thing)[0]][f]; }

    boolean field(int k, int f, int least, int most, int rate) {
        if (!in(k, 0, 7) || !in(f, 0, 2) || !in(least, -100000, 100000) || !in(most, least, 100000) || !in(rate, 0, 10000)) return false;
        field[k][f] = new int[] {least, most, rate};
        return true;
    }
    boolean kind(int k, int drift, int cost) {
        if (!in(k, 0, 7) || !in(drift, 0, 500) || !in(cost, 0, 9999)) return false;
        kind[k] = new int[] {drift, cost};
        return true;
    }
    int thing(int k, int owner) {
        if (things.size() == 40 || !in(k, 0, 7) || !in(owner, 0, 7)) return -1;
        things.add(new int[] {k, owner});
        sets.add(new ArrayList<>(List.of(0)));
        gaveUp.add(new TreeSet<>());
        return things.size() - 1;
    }
    int tick() {
        if (now == 3999) return -1;
        now++;
        int many = 0;
        for (Rule r : rules) {
            boolean held = r.inForce && holds(r, now, now);
            if (held && !r.held) { many++; act(r); }
            r.held = held;
        }
        return many;
    }
    void act(Rule r) {
        if (acts.size() == 300 || !r.wishes && orders.size() == 200) return;
        Act a = new Act();
        a.rule = rules.indexOf(r);
        a.tick = now;
        a.order = -1;
        a.word = -1;
        for (int w = 0; w < words.size(); w++) for (Value v : r.whenValues) if (v.thing == words.get(w).thing) a.word = w;
        if (r.wishes) wishes.put((r.owner * 40 + r.thing) * 3 + r.field, new long[] {r.number, ++turn});
        else a.order = newOrder(r.thing, r.number, Math.min(3999, now + 50));
        acts.add(a);
    }
    int newOrder(int thing, int n, int until) {
        if (orders.size() == 200) return -1;
        Order o = new Order();
        o.thing = thing; o.n = n; o.until = until;
        orders.add(o);
        return orders.size() - 1;
    }
    int word(int t, int count, int hour, int... n) {
        if (words.size() == 400 || !hasThing(t) || !in(count, 1, 200) || !tick(hour)) return -1;
        for (int x : n) if (x != NO && !in(x, -100000, 100000)) return -1;
        for (Word w : words) if (w.thing == t && w.count == count) return -2;
        Word w = new Word();
        w.thing = t; w.count = count; w.hour = hour; w.came = now; w.n = n;
        for (Word o : words) if (o.thing == t && o.count > count) w.late = true;
        int right = 0;
        for (int s : sets.get(t)) if (s <= hour && s > right) right = s;
        int e = (int) Math.ceil((hour - right) * kind[things.get(t)[0]][0] / 1000.0);
        w.from = Math.min(now, Math.max(right, hour - e));
        w.to = Math.min(now, hour + e);
        for (int f = 0; f < 3; f++) {
            Word by = null;
            for (Word o : words) {
                if (o.thing == t && o.count < count && o.n[f] != NO && !o.forgotten && (by == null || o.count > by.count)) by = o;
            }
            if (n[f] != NO && by != null && by.from <= w.to) {
                int[] g = grown(by, f, w.to);
                if (!in(n[f], g[0], g[1])) w.outside |= 1 << f;
            }
        }
        words.add(w);
        wake(t);
        return words.size() - 1;
    }
    int[] grown(Word w, int f, int at) {
        int[] d = fieldOf(w.thing, f);
        int n = w.n[f];
        return new int[] {Math.max(n - d[2] * (at - w.from), Math.min(d[0], n)), Math.min(n + d[2] * (at - w.from), Math.max(d[1], n))};
    }
    int words(int k, int what) {
        if (!in(k, 0, words.size() - 1) || !in(what, 0, 8)) return -1;
        Word w = words.get(k);
        return new int[] {w.thing, w.count, w.hour, w.came, w.late ? 1 : 0, w.from, w.to, w.outside, w.forgotten ? 1 : 0}[what];
    }
    boolean set(int t, int tick) {
        if (!hasThing(t) || !in(tick, 0, now)) return false;
        sets.get(t).add(tick);
        return true;
    }
    List<Integer> missed(int t) {
        TreeSet<Integer> came = new TreeSet<>();
        for (Word w : words) if (w.thing == t) came.add(w.count);
        List<Integer> missed = new ArrayList<>();
        for (int c = 1; !came.isEmpty() && c < came.last(); c++) if (!came.contains(c) && !gaveUp.get(t).contains(c)) missed.add(c);
        return missed;
    }
    int missed(int t, int k) {
        if (!hasThing(t)) return -1;
        List<Integer> missed = missed(t);
        return k == -1 ? missed.size() : in(k, 0, missed.size() - 1) ? missed.get(k) : -1;
    }
    boolean giveUp(int t, int count) {
        if (!hasThing(t) || !missed(t).contains(count)) return false;
        return gaveUp.get(t).add(count);
    }
    int forget(int t) {
        if (!hasThing(t)) return -1;
        int many = 0;
        for (Word w : words) if (w.thing == t && !w.forgotten) { w.forgotten = true; many++; }
        return many;
    }
    Word saidBy(int t, int f, int at, int known) {
        Word by = null;
        if (hasThing(t) && in(f, 0, 2)) {
            for (Word w : words) {
                boolean is = w.thing == t && w.came <= known && w.n[f] != NO && !w.forgotten && w.from <= at;
                if (is && (by == null || w.count > by.count)) by = w;
            }
        }
        return by;
    }
    int said(int t, int f, int at, int known) {
        Word w = tick(at) && tick(known) ? saidBy(t, f, at, known) : null;
        return w == null ? NO : w.n[f];
    }
    int guess(int t, int f, int at, int known, int part) {
        Word w = tick(at) && tick(known) ? saidBy(t, f, at, known) : null;
        if (w == null || !in(part, 0, 2)) return part == 2 ? -1 : NO;
        return part == 2 ? words.indexOf(w) : grown(w, f, at)[part];
    }

    int feed(int... numbers) {
        if (tape.length() > 180) return -1;
        for (int n : numbers) for (int s = 24; s >= 0; s -= 8) tape.append((char) (n >>> s & 255));
        return tape.length();
    }
    int end(int n) {
        if (!in(n, 0, tape.length())) return -1;
        tape.setLength(n);
        return n;
    }
    int rule(int owner) {
        if (rules.size() == 20 || !in(owner, 0, 7)) return -1;
        String text = tape.toString();
        tape.setLength(0);
        Rule r = new Rule();
        try {
            new Reader(text, r).rule();
        } catch (Fault f) {
            return -2 - f.code;
        }
        r.owner = owner;
        r.told = now;
        rules.add(r);
        return rules.size() - 1;
    }

    final class Reader {
        final String text; final Rule rule; int at, facts; List<Value> values;
        Reader(String text, Rule rule) { this.text = text; this.rule = rule; }
        char look() { return at < text.length() ? text.charAt(at) : (char) 999; }
        char lookPastBlanks() { while (look() == ' ') at++; return look(); }
        String word() {
            lookPastBlanks();
            int e = at;
            while (e < text.length() && text.charAt(e) >= 'a' && text.charAt(e) <= 'z') e++;
            return text.substring(at, e);
        }
        void need(String word) { if (!word().equals(word)) throw new Fault(at, 0); at += word.length(); }
        void sign(char c) { if (lookPastBlanks() != c) throw new Fault(at, 0); at++; }
        void atOnce(char c) { if (look() != c) throw new Fault(at, 0); at++; }
        int digits(int least, int most) {
            int start = at;
            while (look() >= '0' && look() <= '9') at++;
            if (at == start) throw new Fault(at, 0);
            if (at - start > 6 || !in(Integer.parseInt(text.substring(start, at)), least, most)) throw new Fault(start, 1);
            return Integer.parseInt(text.substring(start, at));
        }
        int number() {
            if (lookPastBlanks() != '-') return digits(0, 999999);
            at++;
            return -digits(0, 999999);
        }
        int n() { lookPastBlanks(); return digits(1, 60); }
        int thing() {
            String w = word();
            if (!w.equals("t")) throw new Fault(at, 0);
            int start = at++;
            int t = digits(0, 39);
            if (t >= things.size()) throw new Fault(start, 4);
            return t;
        }
        int ref() { atOnce('.'); atOnce('f'); return digits(0, 2); }
        void rule() {
            need("when");
            values = rule.whenValues;
            rule.when = test(0);
            if (word().equals("for")) { need("for"); rule.lasting = n(); }
            values = rule.unlessValues;
            if (word().equals("unless")) { need("unless"); rule.unless = test(0); }
            sign(':');
            String w = word();
            if (w.equals("wish")) {
                need("wish");
                rule.wishes = true;
                rule.thing = thing();
                rule.field = ref();
                sign('=');
                rule.number = number();
            } else {
                need("order");
                rule.thing = thing();
                rule.number = n();
            }
            lookPastBlanks();
            if (at < text.length()) throw new Fault(at, 0);
        }
        Test test(int deep) {
            Test a = part(deep);
            if (!word().equals("or")) return a;
            need("or");
            Test b = test(deep);
            return v -> a.at(v) || b.at(v);
        }
        Test part(int deep) {
            Test a = fact(deep);
            if (!word().equals("and")) return a;
            need("and");
            Test b = part(deep);
            return v -> a.at(v) && b.at(v);
        }
        Test fact(int deep) {
            String w = word();
            if (w.equals("not")) {
                if (deep == 5) throw new Fault(at, 2);
                need("not");
                Test a = fact(deep + 1);
                return v -> !a.at(v);
            }
            if (look() == '[') {
                if (deep == 5) throw new Fault(at, 2);
                at++;
                Test a = test(deep + 1);
                sign(']');
                return a;
            }
            return comparison(w);
        }
        Test comparison(String w) {
            if (!List.of("t", "max", "min", "age").contains(w)) throw new Fault(at, 0);
            if (++facts > 16) throw new Fault(at, 3);
            Value value = new Value();
            value.kind = w.equals("t") ? 't' : w.equals("max") ? 'M' : w.equals("min") ? 'm' : 'a';
            if (!w.equals("t")) need(w);
            value.thing = thing();
            if (!w.equals("age")) value.field = ref();
            if (w.startsWith("m")) value.n = n();
            char c = lookPastBlanks();
            if (c != '<' && c != '=' && c != '>') throw new Fault(at, 0);
            at++;
            value.sign = "" + c;
            if (c != '=' && look() == '=') { at++; value.sign += "="; }
            value.number = number();
            values.add(value);
            return v -> {
                Integer is = v.apply(value);
                return is != null && compare(is, value.sign, value.number);
            };
        }
    }
    static boolean compare(int a, String sign, int b) {
        if (a == b) return sign.endsWith("=");
        return a < b ? sign.startsWith("<") : sign.startsWith(">");
    }

    boolean force(int k, boolean is) {
        if (!in(k, 0, rules.size() - 1) || rules.get(k).inForce == is) return false;
        rules.get(k).inForce = is;
        rules.get(k).held = false;
        return true;
    }
    Integer value(Value v, int t, int k) {
        Integer best = null;
        for (Word w : words) {
            if (w.thing != v.thing || w.came > k) continue;
            if (v.kind == 'a' && w.came <= t && (best == null || t - w.came < best)) best = t - w.came;
            if (v.kind != 'M' && v.kind != 'm' || w.forgotten || w.n[v.field] == NO) continue;
            boolean meets = false;
            for (int x = t - v.n + 1; x <= t; x++) meets |= in(x, w.from, w.to);
            int n = w.n[v.field];
            if (meets && (best == null || (v.kind == 'M' ? n > best : n < best))) best = n;
        }
        if (v.kind != 't') return best;
        Word w = saidBy(v.thing, v.field, t, k);
        return w == null ? null : (Integer) w.n[v.field];
    }
    boolean holds(Rule r, int t, int k) {
        for (int i = 0; i < Math.max(1, r.lasting); i++) {
            int x = t - i;
            if (x < r.told || x < 0 || !r.when.at(v -> value(v, x, k))) return false;
        }
        return r.unless == null || !r.unless.at(v -> value(v, t, k));
    }
    int held(int rule, int t, int k) {
        if (!in(rule, 0, rules.size() - 1) || !tick(t) || !tick(k)) return -1;
        return holds(rules.get(rule), t, k) ? 1 : 0;
    }
    int acts(int k, int what) {
        if (!in(k, 0, acts.size() - 1) || !in(what, 0, 4)) return -2;
        Act a = acts.get(k);
        return new int[] {a.rule, a.tick, a.word, holds(rules.get(a.rule), a.tick, now) ? 1 : 0, a.order}[what];
    }

    int rank(int a, int b, int n) {
        if (!in(a, 0, 7) || !in(b, 0, 7) || !in(n, 0, 9)) return -1;
        int was = rank[a][b];
        rank[a][b] = n;
        return was;
    }
    boolean wish(int owner, int t, int f, int n) {
        if (!in(owner, 0, 7) || !hasThing(t) || !in(f, 0, 2)) return false;
        int key = (owner * 40 + t) * 3 + f;
        if (n == NO) return wishes.remove(key) != null;
        if (!in(n, fieldOf(t, f)[0], fieldOf(t, f)[1])) return false;
        wishes.put(key, new long[] {n, ++turn});
        return true;
    }
    int wished(int t, int f, int what) {
        if (!hasThing(t) || !in(f, 0, 2) || !in(what, 0, 2)) return NO;
        long best = -1;
        int who = -1;
        int number = NO;
        for (int o = 0; o < 8; o++) {
            long[] w = wishes.get((o * 40 + t) * 3 + f);
            int r = rank[o][things.get(t)[1]];
            if (w != null && r > 0 && r * 1000000L + w[1] > best) { best = r * 1000000L + w[1]; who = o; number = (int) w[0]; }
        }
        int said = said(t, f, now, now);
        return what == 0 ? number : what == 1 ? who : who != -1 && said != NO && said != number ? 1 : 0;
    }
    int order(int t, int n, int until) {
        return hasThing(t) && in(n, 1, 60) && in(until, now, 3999) ? newOrder(t, n, until) : -1;
    }
    int stateOf(Order o) { return o.state < 2 && now > o.until ? o.state + 4 : o.state; }
    int wake(int t) {
        if (!hasThing(t)) return -1;
        int many = 0;
        for (Order o : orders) if (o.thing == t && stateOf(o) < 2) { o.state = 1; o.times++; many++; }
        return many;
    }
    boolean answer(int k, boolean did) {
        if (!in(k, 0, orders.size() - 1) || stateOf(orders.get(k)) != 1 && stateOf(orders.get(k)) != 5) return false;
        orders.get(k).state = did ? 2 : 3;
        return true;
    }
    int orders(int k, int what) {
        if (!in(k, 0, orders.size() - 1) || !in(what, 0, 4)) return -1;
        Order o = orders.get(k);
        return new int[] {o.thing, o.n, o.until, stateOf(o), o.times}[what];
    }

    /** The numbers of all refs of rules, by thing * 3 + field; null: spent. */
    TreeMap<Integer, TreeSet<Integer>> numbers(List<Rule> looked) {
        TreeMap<Integer, TreeSet<Integer>> all = new TreeMap<>();
        for (Rule r : looked) {
            for (Value v : r.all()) {
                int[] d = fieldOf(v.thing, v.field);
                TreeSet<Integer> set = all.computeIfAbsent(v.thing * 3 + v.field, c -> new TreeSet<>(List.of(d[0])));
                set.add(d[1]);
                for (int n = v.number - 1; n <= v.number + 1; n++) if (in(n, d[0], d[1])) set.add(n);
            }
        }
        double rows = 1;
        for (TreeSet<Integer> set : all.values()) rows *= set.size();
        return all.size() > 12 || rows > 20000 ? null : all;
    }
    List<Map<Integer, Integer>> starts(TreeMap<Integer, TreeSet<Integer>> numbers) {
        List<Map<Integer, Integer>> rows = new ArrayList<>(List.of(new TreeMap<>()));
        for (int cell : numbers.keySet()) {
            List<Map<Integer, Integer>> longer = new ArrayList<>();
            for (Map<Integer, Integer> row : rows) {
                for (int n : numbers.get(cell)) {
                    Map<Integer, Integer> more = new TreeMap<>(row);
                    more.put(cell, n);
                    longer.add(more);
                }
            }
            rows = longer;
        }
        return rows;
    }
    static boolean holdsIn(Rule r, Map<Integer, Integer> row) {
        Function<Value, Integer> values = v -> row.get(v.thing * 3 + v.field);
        return r.when.at(values) && (r.unless == null || !r.unless.at(values));
    }
    void show(Map<Integer, Integer> start, List<Integer> ring) {
        shownRefs.clear();
        if (start != null) start.forEach((cell, n) -> shownRefs.add(new int[] {cell / 3, cell % 3, n}));
        shownRing = ring;
    }
    int pulls(int a, int b) {
        if (a == b || !in(a, 0, rules.size() - 1) || !in(b, 0, rules.size() - 1)) return -1;
        Rule p = rules.get(a);
        Rule q = rules.get(b);
        if (!p.plain() || !q.plain()) return -1;
        if (p.thing == q.thing && p.field == q.field && p.number != q.number) {
            TreeMap<Integer, TreeSet<Integer>> numbers = numbers(List.of(p, q));
            if (numbers == null) return -2;
            for (Map<Integer, Integer> row : starts(numbers)) {
                if (holdsIn(p, row) && holdsIn(q, row)) { show(row, List.of()); return 1; }
            }
        }
        show(null, List.of());
        return 0;
    }
    int ring() {
        List<Rule> looked = rules.stream().filter(r -> r.inForce && r.plain()).toList();
        TreeMap<Integer, TreeSet<Integer>> numbers = numbers(looked);
        if (numbers == null) return -2;
        List<Map<Integer, Integer>> starts = starts(numbers);
        if (starts.size() > 2000) return -2;
        for (Map<Integer, Integer> start : starts) {
            Map<Integer, Integer> row = new TreeMap<>(start);
            List<Map<Integer, Integer>> seen = new ArrayList<>(List.of(new TreeMap<>(row)));
            List<Integer> acted = new ArrayList<>();
            while (true) {
                Rule next = null;
                for (Rule r : looked) {
                    Integer is = row.get(r.thing * 3 + r.field);
                    if (next == null && holdsIn(r, row) && (is == null || is != r.number)) next = r;
                }
                if (next == null) break;
                if (acted.size() == 200) return -2;
                row.put(next.thing * 3 + next.field, next.number);
                acted.add(rules.indexOf(next));
                int once = seen.indexOf(row);
                if (once >= 0) {
                    show(start, acted.subList(once, acted.size()));
                    return shownRing.size();
                }
                seen.add(new TreeMap<>(row));
            }
        }
        show(null, List.of());
        return 0;
    }
    int shown(int k, int what) {
        if (what == 3) return in(k, 0, shownRing.size() - 1) ? shownRing.get(k) : NO;
        return in(k, 0, shownRefs.size() - 1) && in(what, 0, 2) ? shownRefs.get(k)[what] : NO;
    }

    int question(int f, long set, int width) {
        boolean there = set > 0;
        for (int i = 0; i < 64; i++) if ((set >>> i & 1) == 1 && i >= things.size()) there = false;
        if (questions.size() == 8 || !in(f, 0, 2) || !there || !in(width, 0, 1000000000)) return -1;
        questions.add(new long[] {f, set, width});
        return questions.size() - 1;
    }
    int widthOf(int t, int f, int at, boolean ask) {
        int[] d = fieldOf(t, f);
        Word w = saidBy(t, f, at, now);
        int wide = w == null ? d[1] - d[0] : grown(w, f, at)[1] - grown(w, f, at)[0];
        return ask ? Math.min(wide, Math.min(d[1] - d[0], 2 * d[2] * (at - now))) : wide;
    }
    int sum(long[] q, int at, long asked) {
        int sum = 0;
        for (int t = 0; t < things.size(); t++) if ((q[1] >> t & 1) == 1) sum += widthOf(t, (int) q[0], at, (asked >> t & 1) == 1);
        return sum;
    }
    int width(int q, int at) {
        return in(q, 0, questions.size() - 1) && in(at, now, 3999) ? sum(questions.get(q), at, 0) : -1;
    }
    int ask(int at) {
        if (questions.isEmpty() || !in(at, now, 3999)) return -1;
        long all = 0;
        for (long[] q : questions) all |= q[1];
        if (Long.bitCount(all) > 12) return -2;
        int best = -3;
        // All sets of the things named, rising.
        long set = 0;
        do {
            int cost = 0;
            for (int t = 0; t < things.size(); t++) cost += (set >> t & 1) == 1 ? kind[things.get(t)[0]][1] : 0;
            boolean does = true;
            for (long[] q : questions) does = does && sum(q, at, set) <= q[2];
            if (does && (best == -3 || cost < best)) { best = cost; asked = set; }
            set = (set - all) & all;
        } while (set != 0);
        return best;
    }

    boolean join(int t, int r) {
        if (!hasThing(t) || !in(r, 0, 7) || ringOf[t] != -1 || began[r] != 0) return false;
        ringOf[t] = r;
        return true;
    }
    boolean odds(int r, int a, int b) {
        if (!in(r, 0, 7) || !in(b, 1, 1000) || !in(a, 0, b)) return false;
        odds[r] = new int[] {a, b};
        return true;
    }
    boolean hasThings(int r) { return Arrays.stream(ringOf).anyMatch(x -> x == r); }
    boolean begin(int r, int p) {
        if (!in(r, 0, 7) || !in(p, 1, 999) || !hasThings(r) || began[r] != 0 || stopped[r]) return false;
        for (int i = 0; i < r; i++) if (hasThings(i) && (began[i] == 0 || worse(i) == 1 || stopped[i])) return false;
        began[r] = p;
        return true;
    }
    boolean report(int t, boolean did) {
        if (!hasThing(t) || ringOf[t] == -1 || began[ringOf[t]] == 0 || report[t] != -1) return false;
        report[t] = did ? 1 : 0;
        ahead[t] = program[t];
        if (did) program[t] = began[ringOf[t]];
        return true;
    }
    static BigInteger ways(int n, int k) {
        BigInteger w = BigInteger.ONE;
        if (k < 0 || k > n) return BigInteger.ZERO;
        for (int i = 0; i < k; i++) w = w.multiply(BigInteger.valueOf(n - i)).divide(BigInteger.valueOf(i + 1));
        return w;
    }
    int worse(int r) {
        if (!in(r, 0, 7)) return -1;
        int all = 0, failed = 0, here = 0, bad = 0;
        for (int t = 0; t < 40; t++) {
            if (report[t] == -1) continue;
            all++;
            failed += 1 - report[t];
            if (ringOf[t] == r) { here++; bad += 1 - report[t]; }
        }
        if (here == 0) return 0;
        BigInteger sum = BigInteger.ZERO;
        for (int i = bad; i <= failed; i++) sum = sum.add(ways(failed, i).multiply(ways(all - failed, here - i)));
        return sum.multiply(BigInteger.valueOf(odds[r][1])).compareTo(ways(all, here).multiply(BigInteger.valueOf(odds[r][0]))) < 0 ? 1 : 0;
    }
    int stop(int r) {
        if (!in(r, 0, 7)) return -1;
        int many = 0;
        for (int i = r; i < 8; i++) if (!stopped[i]) { stopped[i] = true; many++; }
        return many;
    }
    int back(int r) {
        if (!in(r, 0, 7) || began[r] == 0) return -1;
        int many = 0;
        for (int t = 0; t < 40; t++) {
            if (ringOf[t] != r) continue;
            if (report[t] == 1) { many++; program[t] = ahead[t]; }
            report[t] = -1;
        }
        began[r] = 0;
        return many;
    }
    int things(int k, int what) {
        if (!hasThing(k) || !in(what, 0, 6)) return -1;
        int greatest = 0, many = 0;
        for (Word w : words) if (w.thing == k) { greatest = Math.max(greatest, w.count); many++; }
        return new int[] {things.get(k)[0], things.get(k)[1], program[k], ringOf[k], greatest, report[k], many}[what];
    }
    int count(int what) {
        return in(what, 0, 7) ? new int[] {now, things.size(), words.size(), rules.size(), acts.size(), orders.size(), questions.size(), tape.length()}[what] : -1;
    }
}
