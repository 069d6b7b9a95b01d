/** A post between small things that speak seldom and people who think they can; the promises stand in DOC.md. */
public final class ThingPost {
    public static final int NONE = -1;

    private static final int LAST_TICK = 3999;
    private static final int OWNERS = 8;
    private static final int KINDS = 8;
    private static final int FIELDS = 3;
    private static final int THINGS = 40;
    private static final int CELLS = THINGS * FIELDS;
    private static final int RINGS = 8;
    private static final int FAR = 100000;
    private static final int NO_NUMBER = -1000000;
    private static final int NO_ACT = -2;
    private static final int SPENT = -2;
    private static final int MOST_OF_ORDER = 60;
    private static final int ORDER_LASTS = 50;

    private final Things things;
    private final Words words;
    private final RuleReader tape;
    private final Wishes wishes;
    private final Orders orders;
    private final Watch watch;
    private final Finder finder;
    private final Questions questions;
    private final Programs programs;
    private int now;

    public ThingPost() {
        things = new Things();
        words = new Words(things);
        tape = new RuleReader(things);
        wishes = new Wishes();
        orders = new Orders();
        watch = new Watch(words, wishes, orders);
        finder = new Finder(watch, things);
        questions = new Questions(things, words);
        programs = new Programs();
        now = 0;
    }

    public boolean field(int kind, int field, int least, int most, int rate) {
        return things.describe(kind, field, least, most, rate);
    }

    public boolean kind(int kind, int drift, int cost) {
        return things.describeKind(kind, drift, cost);
    }

    public int thing(int kind, int owner) {
        return things.add(kind, owner);
    }

    public int tick() {
        if (now >= LAST_TICK) {
            return NONE;
        }
        now++;
        return watch.look(now);
    }

    public int word(int thing, int count, int hour, int a, int b, int c) {
        int word = words.take(thing, count, hour, a, b, c, now);
        if (word >= 0) {
            orders.send(thing, now);
        }
        return word;
    }

    public int words(int k, int what) {
        return words.tell(k, what);
    }

    public boolean set(int thing, int tick) {
        if (!things.has(thing) || !within(tick, 0, now)) {
            return false;
        }
        things.noteSet(thing, tick);
        return true;
    }

    public int missed(int thing, int k) {
        return words.missedOf(thing, k);
    }

    public boolean giveUp(int thing, int count) {
        return words.abandon(thing, count);
    }

    public int forget(int thing) {
        return words.forgetAll(thing);
    }

    public int said(int thing, int field, int at, int known) {
        if (!isTick(at) || !isTick(known)) {
            return NO_NUMBER;
        }
        return words.number(words.saidBy(thing, field, at, known), field);
    }

    public int guess(int thing, int field, int at, int known, int part) {
        int nothing = part == 2 ? NONE : NO_NUMBER;
        if (!isTick(at) || !isTick(known) || !within(part, 0, 2)) {
            return nothing;
        }
        int word = words.saidBy(thing, field, at, known);
        if (word == NONE) {
            return nothing;
        }
        return part == 2 ? word : words.guessEdge(word, field, at, part == 1);
    }

    public int feed(int a, int b, int c, int d, int e) {
        if (!tape.hasRoom()) {
            return NONE;
        }
        tape.append(a);
        tape.append(b);
        tape.append(c);
        tape.append(d);
        tape.append(e);
        return tape.size;
    }

    public int end(int n) {
        return tape.cut(n);
    }

    public int rule(int owner) {
        if (!within(owner, 0, OWNERS - 1)) {
            return NONE;
        }
        Rule fresh = watch.fresh();
        if (fresh == null) {
            return NONE;
        }
        int fault = tape.read(fresh);
        return fault == 0 ? watch.keep(owner, now) : -2 - fault;
    }

    public boolean force(int rule, boolean is) {
        Rule told = watch.ruleAt(rule);
        if (told == null || told.inForce == is) {
            return false;
        }
        told.inForce = is;
        told.wasHeld = false;
        return true;
    }

    public int held(int rule, int at, int known) {
        Rule told = watch.ruleAt(rule);
        if (told == null || !isTick(at) || !isTick(known)) {
            return NONE;
        }
        return watch.isHeld(told, at, known) ? 1 : 0;
    }

    public int acts(int k, int what) {
        return watch.tell(k, what, now);
    }

    public int rank(int owner, int with, int n) {
        return wishes.changeRank(owner, with, n);
    }

    public boolean wish(int owner, int thing, int field, int number) {
        if (!within(owner, 0, OWNERS - 1) || !things.has(thing) || !within(field, 0, FIELDS - 1)) {
            return false;
        }
        int cell = thing * FIELDS + field;
        if (number == NO_NUMBER) {
            return wishes.takeBack(owner, cell);
        }
        if (!within(number, things.least(thing, field), things.most(thing, field))) {
            return false;
        }
        wishes.note(owner, cell, number);
        return true;
    }

    public int wished(int thing, int field, int what) {
        if (!things.has(thing) || !within(field, 0, FIELDS - 1) || !within(what, 0, 2)) {
            return NO_NUMBER;
        }
        int cell = thing * FIELDS + field;
        int owner = wishes.winner(cell, things.ownerOf(thing));
        int number = wishes.number(owner, cell);
        if (what == 0) {
            return number;
        }
        if (what == 1) {
            return owner;
        }
        int said = words.number(words.saidBy(thing, field, now, now), field);
        return owner != NONE && said != NO_NUMBER && said != number ? 1 : 0;
    }

    public int order(int thing, int n, int until) {
        if (!things.has(thing) || !within(n, 1, MOST_OF_ORDER) || !within(until, now, LAST_TICK)) {
            return NONE;
        }
        return orders.give(thing, n, until);
    }

    public int wake(int thing) {
        return things.has(thing) ? orders.send(thing, now) : NONE;
    }

    public boolean answer(int order, boolean did) {
        return orders.hear(order, did, now);
    }

    public int orders(int k, int what) {
        return orders.tell(k, what, now);
    }

    public int pulls(int a, int b) {
        return finder.findPull(a, b);
    }

    public int ring() {
        return finder.findRing();
    }

    public int shown(int k, int what) {
        return finder.show(k, what);
    }

    public int question(int field, long things, int width) {
        return questions.add(field, things, width);
    }

    public int width(int question, int at) {
        return within(at, now, LAST_TICK) ? questions.sumOf(question, at, now) : NONE;
    }

    public int ask(int at) {
        return within(at, now, LAST_TICK) ? questions.choose(at, now) : NONE;
    }

    public long asked() {
        return questions.chosen;
    }

    public boolean join(int thing, int ring) {
        return things.has(thing) && programs.enter(thing, ring);
    }

    public boolean odds(int ring, int a, int b) {
        return programs.bet(ring, a, b);
    }

    public boolean begin(int ring, int program) {
        return programs.launch(ring, program);
    }

    public boolean report(int thing, boolean did) {
        return things.has(thing) && programs.hear(thing, did);
    }

    public int worse(int ring) {
        if (!within(ring, 0, RINGS - 1)) {
            return NONE;
        }
        return programs.isWorse(ring) ? 1 : 0;
    }

    public int stop(int ring) {
        return programs.halt(ring);
    }

    public int back(int ring) {
        return programs.undo(ring);
    }

    public int things(int k, int what) {
        if (!things.has(k)) {
            return NONE;
        }
        switch (what) {
            case 0: return things.kindOf(k);
            case 1: return things.ownerOf(k);
            case 2: return programs.programOf[k];
            case 3: return programs.ringOf[k];
            case 4: return words.greatestCount(k);
            case 5: return programs.reportOf[k];
            case 6: return words.howMany(k);
            default: return NONE;
        }
    }

    public int count(int what) {
        switch (what) {
            case 0: return now;
            case 1: return things.size;
            case 2: return words.size;
            case 3: return watch.size;
            case 4: return watch.acts;
            case 5: return orders.size;
            case 6: return questions.size;
            case 7: return tape.size;
            default: return NONE;
        }
    }

    private static boolean within(int number, int least, int most) {
        return number >= least && number <= most;
    }

    private static boolean isTick(int tick) {
        return within(tick, 0, LAST_TICK);
    }

    /** The KINDS with their FIELDS, the THINGS of them, and the TICKS at which their clocks were SET. */
    private static final class Things {
        // An object hears at most 512 calls, so no more clocks than that can be SET.
        static final int SETS = 512;

        final int[] drifts = new int[KINDS];
        final int[] costs = new int[KINDS];
        final int[] leasts = new int[KINDS * FIELDS];
        final int[] mosts = new int[KINDS * FIELDS];
        final int[] rates = new int[KINDS * FIELDS];
        final int[] kinds = new int[THINGS];
        final int[] owners = new int[THINGS];
        final int[] setThings = new int[SETS];
        final int[] setTicks = new int[SETS];
        int sets;
        int size;

        boolean describe(int kind, int field, int least, int most, int rate) {
            if (!within(kind, 0, KINDS - 1) || !within(field, 0, FIELDS - 1) || !within(rate, 0, 10000)) {
                return false;
            }
            if (least < -FAR || most > FAR || least > most) {
                return false;
            }
            int row = kind * FIELDS + field;
            leasts[row] = least;
            mosts[row] = most;
            rates[row] = rate;
            return true;
        }

        boolean describeKind(int kind, int drift, int cost) {
            if (!within(kind, 0, KINDS - 1) || !within(drift, 0, 500) || !within(cost, 0, 9999)) {
                return false;
            }
            drifts[kind] = drift;
            costs[kind] = cost;
            return true;
        }

        int add(int kind, int owner) {
            if (size >= THINGS || !within(kind, 0, KINDS - 1) || !within(owner, 0, OWNERS - 1)) {
                return NONE;
            }
            kinds[size] = kind;
            owners[size] = owner;
            size++;
            return size - 1;
        }

        boolean has(int thing) {
            return thing >= 0 && thing < size;
        }

        int kindOf(int thing) {
            return has(thing) ? kinds[thing] : 0;
        }

        int ownerOf(int thing) {
            return has(thing) ? owners[thing] : 0;
        }

        int drift(int thing) {
            return drifts[kindOf(thing)];
        }

        int cost(int thing) {
            return costs[kindOf(thing)];
        }

        private int row(int thing, int field) {
            boolean is = thing >= 0 && thing < size && field >= 0 && field < FIELDS;
            return is ? kinds[thing] * FIELDS + field : 0;
        }

        int least(int thing, int field) {
            return leasts[row(thing, field)];
        }

        int most(int thing, int field) {
            return mosts[row(thing, field)];
        }

        int rate(int thing, int field) {
            return rates[row(thing, field)];
        }

        void noteSet(int thing, int tick) {
            if (sets < SETS) {
                setThings[sets] = thing;
                setTicks[sets] = tick;
                sets++;
            }
        }

        int latestSet(int thing, int hour) {
            int latest = 0;
            for (int i = 0; i < sets; i++) {
                if (setThings[i] == thing && setTicks[i] <= hour) {
                    latest = Math.max(latest, setTicks[i]);
                }
            }
            return latest;
        }
    }

    /** The WORDS; of each THING they hang in two chains, one falling by COUNT and one back in time. */
    private static final class Words {
        static final int ROOM = 400;
        static final int COUNTS = 200;
        static final int STEP = COUNTS + 1;
        static final int CAME = 1;
        static final int GIVEN_UP = 2;

        final Things things;
        final int[] thingOf = new int[ROOM];
        final int[] countOf = new int[ROOM];
        final int[] hourOf = new int[ROOM];
        final int[] cameOn = new int[ROOM];
        final int[] from = new int[ROOM];
        final int[] to = new int[ROOM];
        final int[] outside = new int[ROOM];
        final boolean[] late = new boolean[ROOM];
        final boolean[] forgotten = new boolean[ROOM];
        final int[] numbers = new int[ROOM * FIELDS];
        final int[] below = new int[ROOM];
        final int[] before = new int[ROOM];
        final int[] top = new int[THINGS];
        final int[] last = new int[THINGS];
        final byte[] marks = new byte[THINGS * STEP];
        int size;

        Words(Things things) {
            this.things = things;
            for (int i = 0; i < THINGS; i++) {
                top[i] = NONE;
                last[i] = NONE;
            }
        }

        boolean has(int word) {
            return word >= 0 && word < size;
        }

        int take(int thing, int count, int hour, int a, int b, int c, int now) {
            if (size >= ROOM || !things.has(thing) || !within(count, 1, COUNTS) || !isTick(hour)) {
                return NONE;
            }
            if (!mayBeSaid(a) || !mayBeSaid(b) || !mayBeSaid(c)) {
                return NONE;
            }
            if (marks[thing * STEP + count] == CAME) {
                return -2;
            }
            int word = size;
            size++;
            marks[thing * STEP + count] = CAME;
            thingOf[word] = thing;
            countOf[word] = count;
            hourOf[word] = hour;
            cameOn[word] = now;
            numbers[word * FIELDS] = a;
            numbers[word * FIELDS + 1] = b;
            numbers[word * FIELDS + 2] = c;
            putSpan(word, thing, hour, now);
            hang(word, thing, count);
            outside[word] = outsideOf(word);
            return word;
        }

        private static boolean mayBeSaid(int number) {
            return number == NO_NUMBER || within(number, -FAR, FAR);
        }

        private void putSpan(int word, int thing, int hour, int now) {
            int right = things.latestSet(thing, hour);
            int error = ((hour - right) * things.drift(thing) + 999) / 1000;
            from[word] = Math.min(Math.max(hour - error, right), now);
            to[word] = Math.min(hour + error, now);
        }

        private void hang(int word, int thing, int count) {
            late[word] = has(top[thing]) && countOf[top[thing]] > count;
            before[word] = last[thing];
            last[thing] = word;
            if (!late[word]) {
                below[word] = top[thing];
                top[thing] = word;
                return;
            }
            int above = top[thing];
            for (int i = 0; i < size && has(below[above]) && countOf[below[above]] > count; i++) {
                above = below[above];
            }
            below[word] = below[above];
            below[above] = word;
        }

        private int outsideOf(int word) {
            int bits = 0;
            for (int field = 0; field < FIELDS; field++) {
                if (isOutside(word, field)) {
                    bits |= 1 << field;
                }
            }
            return bits;
        }

        private boolean isOutside(int word, int field) {
            int number = number(word, field);
            int lesser = below[word];
            for (int i = 0; i < size && has(lesser) && !counts(lesser, field); i++) {
                lesser = below[lesser];
            }
            if (number == NO_NUMBER || !has(lesser) || from[lesser] > to[word]) {
                return false;
            }
            return number < guessEdge(lesser, field, to[word], false)
                || number > guessEdge(lesser, field, to[word], true);
        }

        private boolean counts(int word, int field) {
            return !forgotten[word] && numbers[word * FIELDS + field] != NO_NUMBER;
        }

        int number(int word, int field) {
            return has(word) && within(field, 0, FIELDS - 1) ? numbers[word * FIELDS + field] : NO_NUMBER;
        }

        int tell(int word, int what) {
            if (!has(word)) {
                return NONE;
            }
            switch (what) {
                case 0: return thingOf[word];
                case 1: return countOf[word];
                case 2: return hourOf[word];
                case 3: return cameOn[word];
                case 4: return late[word] ? 1 : 0;
                case 5: return from[word];
                case 6: return to[word];
                case 7: return outside[word];
                case 8: return forgotten[word] ? 1 : 0;
                default: return NONE;
            }
        }

        int greatestCount(int thing) {
            return things.has(thing) && has(top[thing]) ? countOf[top[thing]] : 0;
        }

        int howMany(int thing) {
            int many = 0;
            for (int i = 0; i < size; i++) {
                many += thingOf[i] == thing ? 1 : 0;
            }
            return many;
        }

        int missedOf(int thing, int k) {
            if (!things.has(thing)) {
                return NONE;
            }
            int many = 0;
            int greatest = greatestCount(thing);
            for (int count = 1; count < greatest; count++) {
                if (marks[thing * STEP + count] == 0) {
                    if (many == k) {
                        return count;
                    }
                    many++;
                }
            }
            return k == NONE ? many : NONE;
        }

        boolean abandon(int thing, int count) {
            if (!things.has(thing) || count < 1 || count >= greatestCount(thing)) {
                return false;
            }
            int mark = thing * STEP + count;
            if (marks[mark] != 0) {
                return false;
            }
            marks[mark] = GIVEN_UP;
            return true;
        }

        int forgetAll(int thing) {
            if (!things.has(thing)) {
                return NONE;
            }
            int many = 0;
            for (int i = 0; i < size; i++) {
                if (thingOf[i] == thing && !forgotten[i]) {
                    forgotten[i] = true;
                    many++;
                }
            }
            return many;
        }

        int saidBy(int thing, int field, int at, int known) {
            if (!things.has(thing) || !within(field, 0, FIELDS - 1)) {
                return NONE;
            }
            int word = top[thing];
            for (int i = 0; i < size && has(word); i++) {
                if (cameOn[word] <= known && from[word] <= at && counts(word, field)) {
                    return word;
                }
                word = below[word];
            }
            return NONE;
        }

        int guessEdge(int word, int field, int at, boolean upper) {
            if (!has(word)) {
                return NO_NUMBER;
            }
            int number = number(word, field);
            int thing = thingOf[word];
            int grown = things.rate(thing, field) * (at - from[word]);
            if (upper) {
                return Math.min(number + grown, Math.max(things.most(thing, field), number));
            }
            return Math.max(number - grown, Math.min(things.least(thing, field), number));
        }

        /** The greatest or the least number of the WORDS whose SPAN meets the n TICKS up to a TICK. */
        int extreme(int thing, int field, int n, int at, int known, boolean greatest) {
            int best = NO_NUMBER;
            int word = things.has(thing) && within(field, 0, FIELDS - 1) ? last[thing] : NONE;
            for (int i = 0; i < size && has(word); i++) {
                if (cameOn[word] <= known && counts(word, field) && from[word] <= at && to[word] > at - n) {
                    int number = numbers[word * FIELDS + field];
                    if (best == NO_NUMBER || greatest && number > best || !greatest && number < best) {
                        best = number;
                    }
                }
                word = before[word];
            }
            return best;
        }

        int age(int thing, int at, int known) {
            int word = things.has(thing) ? last[thing] : NONE;
            for (int i = 0; i < size && has(word); i++) {
                if (cameOn[word] <= at && cameOn[word] <= known) {
                    return at - cameOn[word];
                }
                word = before[word];
            }
            return NO_NUMBER;
        }

        int latestOf(int thing) {
            return things.has(thing) ? last[thing] : NONE;
        }
    }

    /** A RULE as read: its FACTS, and its TESTS as a row of FACTS and joints, each joint behind what it joins. */
    private static final class Rule {
        static final int FACTS = 16;
        static final int STEPS = 128;
        static final int NOT = -1;
        static final int AND = -2;
        static final int OR = -3;
        static final int REF = 0;
        static final int MAX = 1;
        static final int MIN = 2;
        static final int AGE = 3;
        static final int BELOW = 0;
        static final int UP_TO = 1;
        static final int SAME = 2;
        static final int FROM = 3;
        static final int ABOVE = 4;

        final int[] valueOf = new int[FACTS];
        final int[] thingOf = new int[FACTS];
        final int[] fieldOf = new int[FACTS];
        final int[] reachOf = new int[FACTS];
        final int[] signOf = new int[FACTS];
        final int[] numberOf = new int[FACTS];
        final int[] steps = new int[STEPS];
        int facts;
        int whenFacts;
        int size;
        int whenSize;
        int lasting;
        int actThing;
        int actField;
        int actNumber;
        int owner;
        int toldOn;
        boolean inForce;
        boolean wasHeld;

        void clear() {
            facts = 0;
            whenFacts = 0;
            size = 0;
            whenSize = 0;
            lasting = 0;
            actThing = NONE;
            actField = NONE;
            actNumber = 0;
        }

        boolean hasUnless() {
            return size > whenSize;
        }

        boolean hasFact(int fact) {
            return fact >= 0 && fact < facts && fact < FACTS;
        }

        int factCell(int fact) {
            return hasFact(fact) ? cell(thingOf[fact], fieldOf[fact]) : NONE;
        }

        int actCell() {
            return cell(actThing, actField);
        }

        private static int cell(int thing, int field) {
            return within(thing, 0, THINGS - 1) && within(field, 0, FIELDS - 1) ? thing * FIELDS + field : NONE;
        }

        boolean isPlain() {
            if (actField == NONE || lasting != 0) {
                return false;
            }
            for (int i = 0; i < facts && i < FACTS; i++) {
                if (valueOf[i] != REF) {
                    return false;
                }
            }
            return true;
        }

        boolean compares(int fact, int value) {
            if (value == NO_NUMBER || !hasFact(fact)) {
                return false;
            }
            int number = numberOf[fact];
            switch (signOf[fact]) {
                case BELOW: return value < number;
                case UP_TO: return value <= number;
                case SAME: return value == number;
                case FROM: return value >= number;
                default: return value > number;
            }
        }

        /** Whether when (or unless) is true, if the FACTS are that have their bit. */
        boolean isTrue(boolean when, int bits) {
            int end = Math.min(when ? whenSize : size, STEPS);
            // The last FACT or joint is bit 0; five brackets leave at most thirteen bits open.
            int open = 0;
            for (int i = when ? 0 : whenSize; i < end; i++) {
                int step = steps[i];
                if (step >= 0) {
                    open = open << 1 | bits >> (step & 15) & 1;
                } else if (step == NOT) {
                    open ^= 1;
                } else if (step == AND) {
                    open = open >> 1 & (open | ~1);
                } else {
                    open = open >> 1 | open & 1;
                }
            }
            return (open & 1) == 1;
        }
    }

    /** The TAPE, and the reading of it as a RULE; the first FAULT ends the reading. */
    private static final class RuleReader {
        static final int ROOM = 200;
        static final int DEEP = 5;
        static final int CANT_STAND = 0;
        static final int NOT_AS_TOLD = 1;
        static final int TOO_DEEP = 2;
        static final int FACT_TOO_MANY = 3;
        static final int NO_SUCH_THING = 4;

        final Things things;
        final int[] bytes = new int[ROOM];
        int size;
        private Rule rule;
        private int place;
        private int fault;
        private int thing;
        private int field;
        private int number;

        RuleReader(Things things) {
            this.things = things;
        }

        boolean hasRoom() {
            return size <= ROOM - 20;
        }

        void append(int four) {
            for (int shift = 24; shift >= 0 && size < ROOM; shift -= 8) {
                bytes[size] = four >> shift & 255;
                size++;
            }
        }

        int cut(int n) {
            if (n < 0 || n > size) {
                return NONE;
            }
            size = n;
            return n;
        }

        /** Reads the TAPE into a RULE and empties it: the FAULT, or 0. */
        int read(Rule target) {
            rule = target;
            rule.clear();
            place = 0;
            fault = 0;
            boolean whole = needsWord("when") && readTest(0) && readFor()
                && (!startsUnless() || readTest(0)) && needsSign(':') && readAct() && needsEnd();
            size = 0;
            return whole ? 0 : fault;
        }

        private boolean fail(int where, int why) {
            fault = 1 + 8 * where + why;
            return false;
        }

        private int byteAt(int where) {
            return where >= 0 && where < size && where < ROOM ? bytes[where] : NONE;
        }

        private void skipBlanks() {
            while (place < size && place < ROOM && bytes[place] == ' ') {
                place++;
            }
        }

        private boolean isWord(String text) {
            skipBlanks();
            int length = text.length();
            for (int i = 0; i < length; i++) {
                if (byteAt(place + i) != text.charAt(i)) {
                    return false;
                }
            }
            return !within(byteAt(place + length), 'a', 'z');
        }

        private boolean takesWord(String text) {
            boolean is = isWord(text);
            if (is) {
                place += text.length();
            }
            return is;
        }

        private boolean needsWord(String text) {
            return takesWord(text) || fail(place, CANT_STAND);
        }

        private boolean takesSign(char sign) {
            skipBlanks();
            boolean is = byteAt(place) == sign;
            if (is) {
                place++;
            }
            return is;
        }

        private boolean needsSign(char sign) {
            return takesSign(sign) || fail(place, CANT_STAND);
        }

        private boolean needsEnd() {
            skipBlanks();
            return place >= size || fail(place, CANT_STAND);
        }

        private void addStep(int step) {
            if (rule.size < Rule.STEPS) {
                rule.steps[rule.size] = step;
                rule.size++;
            }
        }

        private boolean readTest(int depth) {
            boolean and = false;
            boolean or = false;
            for (int i = 0; i < ROOM; i++) {
                if (!readFact(depth)) {
                    return false;
                }
                if (and) {
                    addStep(Rule.AND);
                }
                and = takesWord("and");
                if (!and) {
                    if (or) {
                        addStep(Rule.OR);
                    }
                    or = takesWord("or");
                    if (!or) {
                        return true;
                    }
                }
            }
            return fail(place, CANT_STAND);
        }

        private boolean readFact(int depth) {
            boolean not = isWord("not");
            boolean opens = byteAt(place) == '[';
            if (!not && !opens) {
                return readComparison();
            }
            if (depth >= DEEP) {
                return fail(place, TOO_DEEP);
            }
            if (opens) {
                place++;
                return readTest(depth + 1) && needsSign(']');
            }
            place += 3;
            if (!readFact(depth + 1)) {
                return false;
            }
            addStep(Rule.NOT);
            return true;
        }

        private int valueAhead() {
            if (isWord("t")) {
                return Rule.REF;
            }
            if (isWord("max")) {
                return Rule.MAX;
            }
            if (isWord("min")) {
                return Rule.MIN;
            }
            return isWord("age") ? Rule.AGE : NONE;
        }

        private boolean readComparison() {
            int value = valueAhead();
            if (value == NONE) {
                return fail(place, CANT_STAND);
            }
            int fact = rule.facts;
            if (fact >= Rule.FACTS) {
                return fail(place, FACT_TOO_MANY);
            }
            boolean ranges = value == Rule.MAX || value == Rule.MIN;
            place += value == Rule.REF ? 0 : 3;
            field = NONE;
            if (!readThing() || value != Rule.AGE && !readField() || ranges && !readN()) {
                return false;
            }
            rule.valueOf[fact] = value;
            rule.thingOf[fact] = thing;
            rule.fieldOf[fact] = field;
            rule.reachOf[fact] = ranges ? number : 0;
            int sign = readSign();
            if (sign == NONE || !readNumber()) {
                return false;
            }
            rule.signOf[fact] = sign;
            rule.numberOf[fact] = number;
            rule.facts = fact + 1;
            addStep(fact);
            return true;
        }

        private int readSign() {
            if (takesSign('=')) {
                return Rule.SAME;
            }
            boolean less = takesSign('<');
            if (!less && !takesSign('>')) {
                fail(place, CANT_STAND);
                return NONE;
            }
            boolean same = byteAt(place) == '=';
            if (same) {
                place++;
                return less ? Rule.UP_TO : Rule.FROM;
            }
            return less ? Rule.BELOW : Rule.ABOVE;
        }

        private boolean readThing() {
            if (!isWord("t")) {
                return fail(place, CANT_STAND);
            }
            int start = place;
            place++;
            if (!readDigits(0, THINGS - 1)) {
                return false;
            }
            thing = number;
            return things.has(thing) || fail(start, NO_SUCH_THING);
        }

        private boolean readField() {
            if (byteAt(place) != '.') {
                return fail(place, CANT_STAND);
            }
            place++;
            if (byteAt(place) != 'f') {
                return fail(place, CANT_STAND);
            }
            place++;
            if (!readDigits(0, FIELDS - 1)) {
                return false;
            }
            field = number;
            return true;
        }

        private boolean readN() {
            skipBlanks();
            return readDigits(1, MOST_OF_ORDER);
        }

        private boolean readNumber() {
            boolean negative = takesSign('-');
            if (!readDigits(0, 999999)) {
                return false;
            }
            number = negative ? -number : number;
            return true;
        }

        private boolean readDigits(int least, int most) {
            int start = place;
            number = 0;
            for (int i = 0; i < ROOM && within(byteAt(place), '0', '9'); i++) {
                if (i < 6) {
                    number = number * 10 + byteAt(place) - '0';
                }
                place++;
            }
            if (place == start) {
                return fail(place, CANT_STAND);
            }
            return place - start <= 6 && within(number, least, most) || fail(start, NOT_AS_TOLD);
        }

        private boolean readFor() {
            if (!takesWord("for")) {
                return true;
            }
            if (!readN()) {
                return false;
            }
            rule.lasting = number;
            return true;
        }

        private boolean startsUnless() {
            rule.whenFacts = rule.facts;
            rule.whenSize = rule.size;
            return takesWord("unless");
        }

        private boolean readAct() {
            boolean wishes = takesWord("wish");
            if (!wishes && !needsWord("order") || !readThing()) {
                return false;
            }
            rule.actThing = thing;
            if (wishes) {
                if (!readField() || !needsSign('=') || !readNumber()) {
                    return false;
                }
                rule.actField = field;
            } else if (!readN()) {
                return false;
            }
            rule.actNumber = number;
            return true;
        }
    }

    /** The RULES as they are looked at, and the ACTS that come of it. */
    private static final class Watch {
        static final int ROOM = 20;
        static final int ACTS = 300;

        final Words words;
        final Wishes wishes;
        final Orders orders;
        final Rule[] rules = new Rule[ROOM];
        final int[] actRule = new int[ACTS];
        final int[] actTick = new int[ACTS];
        final int[] actWord = new int[ACTS];
        final int[] actOrder = new int[ACTS];
        int size;
        int acts;

        Watch(Words words, Wishes wishes, Orders orders) {
            this.words = words;
            this.wishes = wishes;
            this.orders = orders;
            for (int i = 0; i < ROOM; i++) {
                rules[i] = new Rule();
            }
        }

        Rule fresh() {
            return size < ROOM ? rules[size] : null;
        }

        int keep(int owner, int now) {
            Rule rule = fresh();
            if (rule == null) {
                return NONE;
            }
            rule.owner = owner;
            rule.toldOn = now;
            rule.inForce = true;
            rule.wasHeld = false;
            size++;
            return size - 1;
        }

        Rule ruleAt(int k) {
            return k >= 0 && k < size && k < ROOM ? rules[k] : null;
        }

        int look(int now) {
            int acted = 0;
            for (int i = 0; i < size; i++) {
                Rule rule = ruleAt(i);
                if (rule == null) {
                    continue;
                }
                boolean held = rule.inForce && isHeld(rule, now, now);
                if (held && !rule.wasHeld) {
                    acted++;
                    act(i, rule, now);
                }
                rule.wasHeld = held;
            }
            return acted;
        }

        private void act(int k, Rule rule, int now) {
            if (acts >= ACTS) {
                return;
            }
            int order = NONE;
            if (rule.actField == NONE) {
                order = orders.give(rule.actThing, rule.actNumber, Math.min(now + ORDER_LASTS, LAST_TICK));
                if (order == NONE) {
                    return;
                }
            } else {
                wishes.note(rule.owner, rule.actCell(), rule.actNumber);
            }
            actRule[acts] = k;
            actTick[acts] = now;
            actWord[acts] = leadOf(rule);
            actOrder[acts] = order;
            acts++;
        }

        private int leadOf(Rule rule) {
            int latest = NONE;
            for (int i = 0; i < rule.whenFacts && i < Rule.FACTS; i++) {
                latest = Math.max(latest, words.latestOf(rule.thingOf[i]));
            }
            return latest;
        }

        boolean isHeld(Rule rule, int at, int known) {
            int first = at - Math.max(rule.lasting, 1) + 1;
            if (first < rule.toldOn) {
                return false;
            }
            for (int tick = at; tick >= first; tick--) {
                if (!isTrue(rule, true, tick, known)) {
                    return false;
                }
            }
            return !rule.hasUnless() || !isTrue(rule, false, at, known);
        }

        private boolean isTrue(Rule rule, boolean when, int at, int known) {
            int bits = 0;
            int end = Math.min(when ? rule.whenFacts : rule.facts, Rule.FACTS);
            for (int i = when ? 0 : rule.whenFacts; i < end; i++) {
                if (rule.compares(i, valueOf(rule, i, at, known))) {
                    bits |= 1 << i;
                }
            }
            return rule.isTrue(when, bits);
        }

        private int valueOf(Rule rule, int fact, int at, int known) {
            if (!rule.hasFact(fact)) {
                return NO_NUMBER;
            }
            int thing = rule.thingOf[fact];
            int field = rule.fieldOf[fact];
            switch (rule.valueOf[fact]) {
                case Rule.MAX: return words.extreme(thing, field, rule.reachOf[fact], at, known, true);
                case Rule.MIN: return words.extreme(thing, field, rule.reachOf[fact], at, known, false);
                case Rule.AGE: return words.age(thing, at, known);
                default: return words.number(words.saidBy(thing, field, at, known), field);
            }
        }

        int tell(int k, int what, int now) {
            if (k < 0 || k >= acts || k >= ACTS) {
                return NO_ACT;
            }
            switch (what) {
                case 0: return actRule[k];
                case 1: return actTick[k];
                case 2: return actWord[k];
                case 3: return wouldBe(k, now) ? 1 : 0;
                case 4: return actOrder[k];
                default: return NO_ACT;
            }
        }

        private boolean wouldBe(int act, int now) {
            Rule rule = ruleAt(actRule[act]);
            return rule != null && isHeld(rule, actTick[act], now);
        }
    }

    /** RANKS, and the latest WISH of each OWNER for each FIELD of a THING. */
    private static final class Wishes {
        final int[] ranks = new int[OWNERS * OWNERS];
        final int[] numbers = new int[OWNERS * CELLS];
        // When each WISH was told, rising from 1; 0 where there is none.
        final int[] turns = new int[OWNERS * CELLS];
        int turn;

        Wishes() {
            for (int i = 0; i < OWNERS; i++) {
                ranks[i * OWNERS + i] = 1;
            }
        }

        int changeRank(int owner, int with, int n) {
            if (!within(owner, 0, OWNERS - 1) || !within(with, 0, OWNERS - 1) || !within(n, 0, 9)) {
                return NONE;
            }
            int was = ranks[owner * OWNERS + with];
            ranks[owner * OWNERS + with] = n;
            return was;
        }

        private static int place(int owner, int cell) {
            boolean is = within(owner, 0, OWNERS - 1) && within(cell, 0, CELLS - 1);
            return is ? owner * CELLS + cell : NONE;
        }

        void note(int owner, int cell, int number) {
            int place = place(owner, cell);
            if (place != NONE) {
                turn++;
                numbers[place] = number;
                turns[place] = turn;
            }
        }

        boolean takeBack(int owner, int cell) {
            int place = place(owner, cell);
            if (place == NONE || turns[place] == 0) {
                return false;
            }
            turns[place] = 0;
            return true;
        }

        int number(int owner, int cell) {
            int place = place(owner, cell);
            return place == NONE ? NO_NUMBER : numbers[place];
        }

        int winner(int cell, int thingOwner) {
            int best = NONE;
            int bestRank = 0;
            int bestTurn = 0;
            for (int owner = 0; owner < OWNERS; owner++) {
                int place = place(owner, cell);
                int told = place == NONE ? 0 : turns[place];
                int rank = within(thingOwner, 0, OWNERS - 1) ? ranks[owner * OWNERS + thingOwner] : 0;
                boolean better = rank > bestRank || rank == bestRank && told > bestTurn;
                if (told > 0 && rank > 0 && better) {
                    best = owner;
                    bestRank = rank;
                    bestTurn = told;
                }
            }
            return best;
        }
    }

    /** ORDERS; that a TICK has passed until which they are is seen when they are looked at. */
    private static final class Orders {
        static final int ROOM = 200;
        static final int WAITS = 0;
        static final int SENT = 1;
        static final int DID = 2;
        static final int FAILED = 3;
        static final int OVER = 4;
        static final int NOT_KNOWN = 5;

        final int[] things = new int[ROOM];
        final int[] numbers = new int[ROOM];
        final int[] untils = new int[ROOM];
        final int[] states = new int[ROOM];
        final int[] times = new int[ROOM];
        int size;

        int give(int thing, int n, int until) {
            if (size >= ROOM) {
                return NONE;
            }
            things[size] = thing;
            numbers[size] = n;
            untils[size] = until;
            size++;
            return size - 1;
        }

        boolean has(int order) {
            return order >= 0 && order < size && order < ROOM;
        }

        private int stateAt(int order, int now) {
            if (!has(order)) {
                return NONE;
            }
            int state = states[order];
            if (now <= untils[order]) {
                return state;
            }
            if (state == WAITS) {
                return OVER;
            }
            return state == SENT ? NOT_KNOWN : state;
        }

        int send(int thing, int now) {
            int many = 0;
            for (int i = 0; i < size && i < ROOM; i++) {
                int state = stateAt(i, now);
                if (things[i] == thing && (state == WAITS || state == SENT)) {
                    states[i] = SENT;
                    times[i]++;
                    many++;
                }
            }
            return many;
        }

        boolean hear(int order, boolean did, int now) {
            int state = stateAt(order, now);
            if (state != SENT && state != NOT_KNOWN || !has(order)) {
                return false;
            }
            states[order] = did ? DID : FAILED;
            return true;
        }

        int tell(int order, int what, int now) {
            if (!has(order)) {
                return NONE;
            }
            switch (what) {
                case 0: return things[order];
                case 1: return numbers[order];
                case 2: return untils[order];
                case 3: return stateAt(order, now);
                case 4: return times[order];
                default: return NONE;
            }
        }
    }

    /** The REFS of PLAIN RULES with their NUMBERS, and the STARTS that these make. */
    private static final class Starts {
        static final int REFS = 12;
        static final int ROWS = 20000;
        // Each of 320 FACTS tells three NUMBERS at most, each REF two more.
        static final int ROOM = 1024;

        final Watch watch;
        final Things things;
        final int[] cells = new int[REFS];
        final int[] slots = new int[CELLS];
        final int[] pool = new int[ROOM];
        final int[] poolFrom = new int[REFS + 1];
        final int[] turns = new int[REFS];
        int refs;

        Starts(Watch watch, Things things) {
            this.watch = watch;
            this.things = things;
        }

        /** Gathers the STARTS of the RULES with their bit: how many rows, or SPENT. */
        int gather(int ruleBits) {
            if (!findRefs(ruleBits)) {
                return SPENT;
            }
            int rows = 1;
            for (int ref = 0; ref < refs; ref++) {
                poolFrom[ref + 1] = poolFrom[ref];
                fill(ref, ruleBits);
                turns[ref] = 0;
                rows *= poolFrom[ref + 1] - poolFrom[ref];
                if (rows > ROWS) {
                    return SPENT;
                }
            }
            return rows;
        }

        private boolean findRefs(int ruleBits) {
            for (int cell = 0; cell < CELLS; cell++) {
                slots[cell] = NONE;
            }
            for (int i = 0; i < Watch.ROOM; i++) {
                Rule rule = (ruleBits >> i & 1) == 1 ? watch.ruleAt(i) : null;
                for (int fact = 0; rule != null && fact < rule.facts; fact++) {
                    int cell = rule.factCell(fact);
                    if (cell >= 0 && cell < CELLS) {
                        slots[cell] = 0;
                    }
                }
            }
            refs = 0;
            for (int cell = 0; cell < CELLS; cell++) {
                if (slots[cell] != NONE) {
                    if (refs >= REFS) {
                        return false;
                    }
                    cells[refs] = cell;
                    slots[cell] = refs;
                    refs++;
                }
            }
            return true;
        }

        private void fill(int ref, int ruleBits) {
            int cell = cells[ref];
            int least = things.least(cell / FIELDS, cell % FIELDS);
            int most = things.most(cell / FIELDS, cell % FIELDS);
            insert(ref, least);
            insert(ref, most);
            for (int i = 0; i < Watch.ROOM; i++) {
                Rule rule = (ruleBits >> i & 1) == 1 ? watch.ruleAt(i) : null;
                for (int fact = 0; rule != null && fact < rule.facts; fact++) {
                    if (rule.factCell(fact) == cell && rule.hasFact(fact)) {
                        insertNear(ref, rule.numberOf[fact], least, most);
                    }
                }
            }
        }

        private void insertNear(int ref, int number, int least, int most) {
            for (int near = number - 1; near <= number + 1; near++) {
                if (within(near, least, most)) {
                    insert(ref, near);
                }
            }
        }

        private void insert(int ref, int number) {
            int at = poolFrom[ref];
            int end = poolFrom[ref + 1];
            while (at < end && pool[at] < number) {
                at++;
            }
            if (end >= ROOM || at < end && pool[at] == number) {
                return;
            }
            for (int i = end; i > at; i--) {
                pool[i] = pool[i - 1];
            }
            pool[at] = number;
            poolFrom[ref + 1] = end + 1;
        }

        int numberOf(int ref) {
            if (ref < 0 || ref >= refs || ref >= REFS) {
                return NO_NUMBER;
            }
            int at = poolFrom[ref] + turns[ref];
            return at >= 0 && at < ROOM ? pool[at] : NO_NUMBER;
        }

        void turn() {
            for (int ref = refs - 1; ref >= 0; ref--) {
                turns[ref]++;
                if (turns[ref] < poolFrom[ref + 1] - poolFrom[ref]) {
                    return;
                }
                turns[ref] = 0;
            }
        }
    }

    /** Finds TWO that PULL and RINGS of RULES, and keeps what shows the latest. */
    private static final class Finder {
        static final int RING_STARTS = 2000;
        static final int RING_ACTS = 200;
        static final int SLOTS = Starts.REFS + Watch.ROOM;

        final Watch watch;
        final Starts starts;
        final int[] numbers = new int[SLOTS];
        final int[] past = new int[(RING_ACTS + 1) * SLOTS];
        final int[] acted = new int[RING_ACTS];
        final int[] shownCells = new int[Starts.REFS];
        final int[] shownNumbers = new int[Starts.REFS];
        final int[] shownRing = new int[RING_ACTS];
        int used;
        int shownRefs;
        int shownRules;

        Finder(Watch watch, Things things) {
            this.watch = watch;
            starts = new Starts(watch, things);
        }

        int findPull(int a, int b) {
            Rule one = watch.ruleAt(a);
            Rule other = watch.ruleAt(b);
            if (one == null || other == null || a == b || !one.isPlain() || !other.isPlain()) {
                return NONE;
            }
            boolean quarrel = one.actCell() == other.actCell() && one.actNumber != other.actNumber;
            int rows = quarrel ? starts.gather(1 << a | 1 << b) : 0;
            if (rows == SPENT) {
                return SPENT;
            }
            clearShown();
            used = starts.refs;
            for (int row = 0; row < rows; row++) {
                putStart();
                if (holds(one) && holds(other)) {
                    keepStart();
                    return 1;
                }
                starts.turn();
            }
            return 0;
        }

        int findRing() {
            int plain = plainInForce();
            int rows = starts.gather(plain);
            if (rows == SPENT || rows > RING_STARTS) {
                return SPENT;
            }
            used = starts.refs;
            giveSlots(plain);
            for (int row = 0; row < rows; row++) {
                putStart();
                int since = follow(plain);
                if (since == SPENT) {
                    return SPENT;
                }
                if (since != NONE) {
                    return shownRules;
                }
                starts.turn();
            }
            clearShown();
            return 0;
        }

        private void clearShown() {
            shownRefs = 0;
            shownRules = 0;
        }

        private int plainInForce() {
            int bits = 0;
            for (int i = 0; i < Watch.ROOM; i++) {
                Rule rule = watch.ruleAt(i);
                if (rule != null && rule.inForce && rule.isPlain()) {
                    bits |= 1 << i;
                }
            }
            return bits;
        }

        /** A FIELD that is wished but named by no REF stands behind the REFS. */
        private void giveSlots(int plain) {
            for (int i = 0; i < Watch.ROOM; i++) {
                Rule rule = (plain >> i & 1) == 1 ? watch.ruleAt(i) : null;
                int cell = rule == null ? NONE : rule.actCell();
                if (cell >= 0 && cell < CELLS && starts.slots[cell] == NONE && used < SLOTS) {
                    starts.slots[cell] = used;
                    used++;
                }
            }
        }

        private void putStart() {
            for (int i = 0; i < used && i < SLOTS; i++) {
                numbers[i] = starts.numberOf(i);
            }
        }

        private void keepStart() {
            clearShown();
            for (int i = 0; i < starts.refs && i < Starts.REFS; i++) {
                shownCells[i] = starts.cells[i];
                shownNumbers[i] = starts.numberOf(i);
                shownRefs++;
            }
        }

        private int slotOf(int cell) {
            int slot = cell >= 0 && cell < CELLS ? starts.slots[cell] : NONE;
            return slot < SLOTS ? slot : NONE;
        }

        private boolean holds(Rule rule) {
            int bits = 0;
            for (int i = 0; i < rule.facts && i < Rule.FACTS; i++) {
                int slot = slotOf(rule.factCell(i));
                if (slot >= 0 && rule.compares(i, numbers[slot])) {
                    bits |= 1 << i;
                }
            }
            return rule.isTrue(true, bits) && !(rule.hasUnless() && rule.isTrue(false, bits));
        }

        /** The least RULE that would set something, or NONE. */
        private int nextToAct(int plain) {
            for (int i = 0; i < Watch.ROOM; i++) {
                Rule rule = (plain >> i & 1) == 1 ? watch.ruleAt(i) : null;
                if (rule != null) {
                    int slot = slotOf(rule.actCell());
                    if (slot >= 0 && numbers[slot] != rule.actNumber && holds(rule)) {
                        return i;
                    }
                }
            }
            return NONE;
        }

        /** Lets the RULES act from the START: the ACT with which a RING begins (it is kept), NONE, or SPENT. */
        private int follow(int plain) {
            for (int acts = 0; acts <= RING_ACTS; acts++) {
                int since = seenAt(acts);
                if (since != NONE) {
                    keepRing(since, acts);
                    return since;
                }
                int k = nextToAct(plain);
                Rule rule = watch.ruleAt(k);
                int slot = rule == null ? NONE : slotOf(rule.actCell());
                if (rule == null || slot < 0) {
                    return NONE;
                }
                if (acts == RING_ACTS) {
                    return SPENT;
                }
                System.arraycopy(numbers, 0, past, acts * SLOTS, SLOTS);
                acted[acts] = k;
                numbers[slot] = rule.actNumber;
            }
            return SPENT;
        }

        private int seenAt(int acts) {
            for (int i = 0; i < acts && i <= RING_ACTS; i++) {
                int same = 0;
                while (same < used && same < SLOTS && past[i * SLOTS + same] == numbers[same]) {
                    same++;
                }
                if (same == used) {
                    return i;
                }
            }
            return NONE;
        }

        private void keepRing(int since, int acts) {
            keepStart();
            for (int i = since; i >= 0 && i < acts && i < RING_ACTS; i++) {
                shownRing[shownRules] = acted[i];
                shownRules++;
            }
        }

        int show(int k, int what) {
            if (what == 3) {
                return k >= 0 && k < shownRules && k < RING_ACTS ? shownRing[k] : NO_NUMBER;
            }
            if (k < 0 || k >= shownRefs || k >= Starts.REFS) {
                return NO_NUMBER;
            }
            switch (what) {
                case 0: return shownCells[k] / FIELDS;
                case 1: return shownCells[k] % FIELDS;
                case 2: return shownNumbers[k];
                default: return NO_NUMBER;
            }
        }
    }

    /** QUESTIONS, and which THINGS to ask that all of them are ANSWERED. */
    private static final class Questions {
        static final int ROOM = 8;
        static final int ASKABLE = 12;
        static final int NO_SET = -3;
        static final int WIDEST = 1000000000;

        final Things things;
        final Words words;
        final int[] fields = new int[ROOM];
        final long[] sets = new long[ROOM];
        final int[] widths = new int[ROOM];
        final int[] named = new int[ASKABLE];
        // How far above its WIDTH each QUESTION is, and how much asking each THING takes off it.
        final int[] excess = new int[ROOM];
        final int[] savings = new int[ROOM * ASKABLE];
        int names;
        int size;
        long chosen = NONE;

        Questions(Things things, Words words) {
            this.things = things;
            this.words = words;
        }

        int add(int field, long set, int width) {
            if (size >= ROOM || !within(field, 0, FIELDS - 1) || !within(width, 0, WIDEST)) {
                return NONE;
            }
            if (set <= 0 || set >> things.size != 0) {
                return NONE;
            }
            fields[size] = field;
            sets[size] = set;
            widths[size] = width;
            size++;
            return size - 1;
        }

        private boolean isAbout(int question, int thing) {
            return (sets[question] >> thing & 1) == 1;
        }

        private int widthOf(int thing, int field, int at, int now) {
            int word = words.saidBy(thing, field, at, now);
            if (word == NONE) {
                return things.most(thing, field) - things.least(thing, field);
            }
            return words.guessEdge(word, field, at, true) - words.guessEdge(word, field, at, false);
        }

        private int widthAsked(int thing, int field, int at, int now) {
            int grown = 2 * things.rate(thing, field) * (at - now);
            int whole = things.most(thing, field) - things.least(thing, field);
            return Math.min(Math.min(grown, whole), widthOf(thing, field, at, now));
        }

        int sumOf(int question, int at, int now) {
            if (question < 0 || question >= size || question >= ROOM) {
                return NONE;
            }
            int sum = 0;
            for (int thing = 0; thing < THINGS; thing++) {
                if (isAbout(question, thing)) {
                    sum += widthOf(thing, fields[question], at, now);
                }
            }
            return sum;
        }

        int choose(int at, int now) {
            if (size == 0) {
                return NONE;
            }
            if (!gatherNames()) {
                return SPENT;
            }
            measure(at, now);
            int best = NONE;
            int bestCost = 0;
            for (int set = 0; set < 1 << names; set++) {
                int cost = costOf(set);
                if ((best == NONE || cost < bestCost) && answersAll(set)) {
                    best = set;
                    bestCost = cost;
                }
            }
            if (best == NONE) {
                return NO_SET;
            }
            chosen = bitsOf(best);
            return bestCost;
        }

        private boolean gatherNames() {
            long all = 0;
            for (int i = 0; i < size && i < ROOM; i++) {
                all |= sets[i];
            }
            names = 0;
            for (int thing = 0; thing < THINGS; thing++) {
                if ((all >> thing & 1) == 1) {
                    if (names >= ASKABLE) {
                        return false;
                    }
                    named[names] = thing;
                    names++;
                }
            }
            return true;
        }

        private void measure(int at, int now) {
            for (int q = 0; q < size && q < ROOM; q++) {
                excess[q] = sumOf(q, at, now) - widths[q];
                for (int i = 0; i < names && i < ASKABLE; i++) {
                    int thing = named[i];
                    int field = fields[q];
                    savings[q * ASKABLE + i] = isAbout(q, thing)
                        ? widthOf(thing, field, at, now) - widthAsked(thing, field, at, now) : 0;
                }
            }
        }

        private int costOf(int set) {
            int cost = 0;
            for (int i = 0; i < names && i < ASKABLE; i++) {
                if ((set >> i & 1) == 1) {
                    cost += things.cost(named[i]);
                }
            }
            return cost;
        }

        private boolean answersAll(int set) {
            for (int q = 0; q < size && q < ROOM; q++) {
                int left = excess[q];
                for (int i = 0; i < names && i < ASKABLE; i++) {
                    left -= (set >> i & 1) == 1 ? savings[q * ASKABLE + i] : 0;
                }
                if (left > 0) {
                    return false;
                }
            }
            return true;
        }

        private long bitsOf(int set) {
            long bits = 0;
            for (int i = 0; i < names && i < ASKABLE; i++) {
                if ((set >> i & 1) == 1) {
                    bits |= 1L << named[i];
                }
            }
            return bits;
        }
    }

    /** PROGRAMS by RINGS of THINGS, each RING watched against all THINGS that reported. */
    private static final class Programs {
        static final int FIRST_ODDS = 20;

        final int[] ringOf = new int[THINGS];
        final int[] programOf = new int[THINGS];
        final int[] programAhead = new int[THINGS];
        final int[] reportOf = new int[THINGS];
        // The PROGRAM that a RING began; 0 if it did not.
        final int[] began = new int[RINGS];
        final boolean[] stopped = new boolean[RINGS];
        final int[] oddsOf = new int[RINGS];
        final int[] oddsIn = new int[RINGS];
        final long[] ways = new long[(THINGS + 1) * (THINGS + 1)];

        Programs() {
            for (int i = 0; i < THINGS; i++) {
                ringOf[i] = NONE;
                reportOf[i] = NONE;
            }
            for (int i = 0; i < RINGS; i++) {
                oddsOf[i] = 1;
                oddsIn[i] = FIRST_ODDS;
            }
            int step = THINGS + 1;
            for (int of = 0; of <= THINGS; of++) {
                ways[of * step] = 1;
                for (int take = 1; take <= of; take++) {
                    ways[of * step + take] = ways[(of - 1) * step + take - 1] + ways[(of - 1) * step + take];
                }
            }
        }

        private static boolean isRing(int ring) {
            return within(ring, 0, RINGS - 1);
        }

        private long waysToTake(int take, int of) {
            return within(of, 0, THINGS) && within(take, 0, of) ? ways[of * (THINGS + 1) + take] : 0;
        }

        boolean enter(int thing, int ring) {
            if (!isRing(ring) || !within(thing, 0, THINGS - 1) || ringOf[thing] != NONE || began[ring] != 0) {
                return false;
            }
            ringOf[thing] = ring;
            return true;
        }

        boolean bet(int ring, int a, int b) {
            if (!isRing(ring) || !within(b, 1, 1000) || !within(a, 0, b)) {
                return false;
            }
            oddsOf[ring] = a;
            oddsIn[ring] = b;
            return true;
        }

        private boolean hasThings(int ring) {
            for (int i = 0; i < THINGS; i++) {
                if (ringOf[i] == ring) {
                    return true;
                }
            }
            return false;
        }

        boolean launch(int ring, int program) {
            if (!isRing(ring) || !within(program, 1, 999) || began[ring] != 0 || stopped[ring] || !hasThings(ring)) {
                return false;
            }
            for (int lesser = 0; lesser < ring; lesser++) {
                if (hasThings(lesser) && (began[lesser] == 0 || stopped[lesser] || isWorse(lesser))) {
                    return false;
                }
            }
            began[ring] = program;
            return true;
        }

        boolean hear(int thing, boolean did) {
            int ring = within(thing, 0, THINGS - 1) ? ringOf[thing] : NONE;
            if (!isRing(ring) || began[ring] == 0 || reportOf[thing] != NONE) {
                return false;
            }
            reportOf[thing] = did ? 1 : 0;
            if (did) {
                programAhead[thing] = programOf[thing];
                programOf[thing] = began[ring];
            }
            return true;
        }

        private int reports(int ring, boolean failedAlone) {
            int many = 0;
            for (int i = 0; i < THINGS; i++) {
                boolean here = ring == NONE || ringOf[i] == ring;
                boolean counted = failedAlone ? reportOf[i] == 0 : reportOf[i] != NONE;
                many += here && counted ? 1 : 0;
            }
            return many;
        }

        boolean isWorse(int ring) {
            int here = reports(ring, false);
            if (!isRing(ring) || here == 0) {
                return false;
            }
            int all = reports(NONE, false);
            int failed = reports(NONE, true);
            long asBad = 0;
            for (int bad = reports(ring, true); bad <= here; bad++) {
                asBad += waysToTake(bad, failed) * waysToTake(here - bad, all - failed);
            }
            return asBad * oddsIn[ring] < oddsOf[ring] * waysToTake(here, all);
        }

        int halt(int ring) {
            if (!isRing(ring)) {
                return NONE;
            }
            int many = 0;
            for (int i = ring; i < RINGS; i++) {
                many += stopped[i] ? 0 : 1;
                stopped[i] = true;
            }
            return many;
        }

        int undo(int ring) {
            if (!isRing(ring) || began[ring] == 0) {
                return NONE;
            }
            int many = 0;
            for (int i = 0; i < THINGS; i++) {
                if (ringOf[i] == ring) {
                    if (reportOf[i] == 1) {
                        programOf[i] = programAhead[i];
                        many++;
                    }
                    reportOf[i] = NONE;
                }
            }
            began[ring] = 0;
            return many;
        }
    }
}
