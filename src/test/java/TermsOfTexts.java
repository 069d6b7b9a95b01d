/** The edges that part II of the terms names for the texts of rules: what stands, and the FAULTS of what does not. */
final class TermsOfTexts {
    private static final String PART = "Terms II";
    private final Check check;

    TermsOfTexts(Check check) {
        this.check = check;
    }

    void run() {
        rules();
        bytes();
        parts();
        acts();
        tests();
        signs();
        values();
        things();
        reaches();
        numbers();
        digits();
        atOnce();
        blanks();
        words();
        depth();
        facts();
        faultsByPlace();
        cannotStand();
        notAsTold();
        tooDeep();
        factTooMany();
        noSuchThing();
        leastOfOnePlace();
    }

    private void of(String words) {
        check.of(PART, words);
    }

    private void stands(String text) {
        ThingPost x = Check.withThings(2);
        check.due("'" + text + "'", Check.rule(x, 0, text), 0);
    }

    /** The FAULT is due at the sign ^ (which is none of the text). */
    private void fault(String marked, int why) {
        int place = marked.indexOf('^');
        String text = marked.substring(0, place) + marked.substring(place + 1);
        ThingPost x = Check.withThings(2);
        check.due("'" + marked + "'", Check.rule(x, 0, text), Check.fault(place, why));
        check.due("rules, behind '" + marked + "'", x.count(3), 0);
    }

    private static String repeat(String text, int n) {
        return text.repeat(n);
    }

    private void rules() {
        of("RULES 0 to 19, of an OWNER:");
        ThingPost x = Check.withThings(1);
        check.due("nothing there yet", x.held(0, 0, 0), -1);
        for (int i = 0; i < 20; i++) {
            check.due("rule " + i, Check.rule(x, i % 8, "when t0.f0=1:wish t0.f0=1"), i);
        }
        check.due("rule 20", Check.rule(x, 0, "when t0.f0=1:wish t0.f0=1"), -1);
        check.due("rules", x.count(3), 20);
        check.due("held of rule 19", x.held(19, 0, 0), 0);
        check.due("held of rule 20", x.held(20, 0, 0), -1);
        check.due("held of rule -1", x.held(-1, 0, 0), -1);
    }

    private void bytes() {
        of("texts of at most 200 bytes:");
        String text = "when t0.f0=1:wish t0.f0=1";
        stands(text + repeat(" ", 175));
        stands(repeat(" ", 175) + text);
        fault(text + repeat(" ", 174) + "^x", 0);
        fault(repeat(" ", 200) + "^", 0);
        ThingPost x = Check.withThings(1);
        Check.type(x, text + repeat(" ", 175));
        check.due("200 bytes", x.count(7), 200);
        check.due("no byte more", x.feed(0, 0, 0, 0, 0), -1);
        check.due("and it stands", x.rule(0), 0);
    }

    private void parts() {
        of("when TEST [ for N ] [ unless TEST ] : ACT.");
        stands("when t0.f0=1 : wish t0.f0=1");
        stands("when t0.f0=1 for 5 : wish t0.f0=1");
        stands("when t0.f0=1 unless t0.f0=2 : wish t0.f0=1");
        stands("when t0.f0=1 for 5 unless t0.f0=2 : wish t0.f0=1");
        fault("^", 0);
        fault("^: wish t0.f0=1", 0);
        fault("^t0.f0=1 : wish t0.f0=1", 0);
        fault("when ^: wish t0.f0=1", 0);
        fault("when t0.f0=1 for ^: wish t0.f0=1", 0);
        fault("when t0.f0=1 for 5 ^for 5 : wish t0.f0=1", 0);
        fault("when t0.f0=1 unless ^: wish t0.f0=1", 0);
        fault("when t0.f0=1 unless t0.f0=2 ^for 5 : wish t0.f0=1", 0);
        fault("when t0.f0=1 unless t0.f0=2 ^unless t0.f0=2 : wish t0.f0=1", 0);
        fault("when t0.f0=1 for 5 ^or t0.f0=2 : wish t0.f0=1", 0);
        fault("when t0.f0=1 ^wish t0.f0=1", 0);
        fault("when t0.f0=1 : ^", 0);
        fault("when t0.f0=1 : wish t0.f0=1 ^: wish t0.f0=1", 0);
        fault("when t0.f0=1 : wish t0.f0=1^, order t0 1", 0);
    }

    private void acts() {
        of("ACT: wish REF = NUMBER | order THING N.");
        stands("when t0.f0=1 : wish t1.f2 = -5");
        stands("when t0.f0=1 : order t1 5");
        fault("when t0.f0=1 : wish ^= 5", 0);
        fault("when t0.f0=1 : wish t1^ = 5", 0);
        fault("when t0.f0=1 : wish ^max t1.f0 5 = 5", 0);
        fault("when t0.f0=1 : wish t1.f0 ^< 5", 0);
        fault("when t0.f0=1 : wish t1.f0 ^>= 5", 0);
        fault("when t0.f0=1 : wish t1.f0 ^5", 0);
        fault("when t0.f0=1 : wish t1.f0 = ^", 0);
        fault("when t0.f0=1 : order ^5", 0);
        fault("when t0.f0=1 : order t1 ^", 0);
        fault("when t0.f0=1 : order t1 ^-5", 0);
        fault("when t0.f0=1 : order t1^.f0 5", 0);
        fault("when t0.f0=1 : order t1 ^= 5", 0);
        fault("when t0.f0=1 : ^t1.f0 = 5", 0);
    }

    /** Whether a test is true where t0.f0 is 1 and nothing else is said. */
    private void truth(String test, int want) {
        ThingPost x = Check.withThings(2);
        x.word(0, 1, 0, 1, Check.NOTHING, Check.NOTHING);
        check.due("rule when " + test, Check.rule(x, 0, "when " + test + ": wish t0.f0=1"), 0);
        check.due("held when " + test, x.held(0, 0, 0), want);
    }

    private void tests() {
        of("TEST: PART { or PART }. PART: FACT { and FACT }. FACT: not FACT | [ TEST ] (these brackets are signs) |"
            + " VALUE SIGN NUMBER");
        truth("t0.f0=1", 1);
        truth("t0.f0=2", 0);
        truth("t0.f0=1 or t0.f0=2 and t0.f0=2", 1);
        truth("t0.f0=2 and t0.f0=2 or t0.f0=1", 1);
        truth("[t0.f0=1 or t0.f0=2] and t0.f0=2", 0);
        truth("not t0.f0=1 or t0.f0=1", 1);
        truth("not [t0.f0=1 or t0.f0=1]", 0);
        truth("not t0.f0=2 and t0.f0=2", 0);
        truth("not [t0.f0=2 and t0.f0=2]", 1);
        truth("not not t0.f0=1", 1);
        truth("t0.f0=2 or t0.f0=2 or t0.f0=2 or t0.f0=1", 1);
        truth("t0.f0=1 and t0.f0=1 and t0.f0=1 and t0.f0=2", 0);
        fault("when [^] : wish t0.f0=1", 0);
        fault("when not ^: wish t0.f0=1", 0);
        fault("when ^or t0.f0=1 : wish t0.f0=1", 0);
        fault("when ^and t0.f0=1 : wish t0.f0=1", 0);
        fault("when t0.f0=1 or ^: wish t0.f0=1", 0);
        fault("when t0.f0=1 and ^: wish t0.f0=1", 0);
        fault("when t0.f0=1 and ^or t0.f0=1 : wish t0.f0=1", 0);
        fault("when t0.f0=1 ^t0.f0=1 : wish t0.f0=1", 0);
        fault("when t0.f0=1 ^not t0.f0=1 : wish t0.f0=1", 0);
        fault("when [t0.f0=1 ^: wish t0.f0=1", 0);
        fault("when t0.f0=1 ^] : wish t0.f0=1", 0);
        fault("when [t0.f0=1]^] : wish t0.f0=1", 0);
        fault("when [t0.f0=1 ^for 5] : wish t0.f0=1", 0);
        fault("when ^(t0.f0=1) : wish t0.f0=1", 0);
        fault("when ^5=t0.f0 : wish t0.f0=1", 0);
        fault("when t0.f0 = ^t0.f1 : wish t0.f0=1", 0);
    }

    private void signs() {
        of("SIGN one of < <= = >= >.");
        int[][] due = {{0, 0, 1}, {0, 1, 1}, {0, 1, 0}, {1, 1, 0}, {1, 0, 0}};
        String[] signs = {"<", "<=", "=", ">=", ">"};
        for (int i = 0; i < signs.length; i++) {
            for (int number = 0; number <= 2; number++) {
                truth("t0.f0" + signs[i] + number, due[i][number]);
            }
        }
        fault("when t0.f0=^=1 : wish t0.f0=1", 0);
        fault("when t0.f0=^<1 : wish t0.f0=1", 0);
        fault("when t0.f0=^>1 : wish t0.f0=1", 0);
        fault("when t0.f0<^>1 : wish t0.f0=1", 0);
        fault("when t0.f0>^<1 : wish t0.f0=1", 0);
        fault("when t0.f0<=^=1 : wish t0.f0=1", 0);
        fault("when t0.f0^!=1 : wish t0.f0=1", 0);
        fault("when t0.f0 ^1 : wish t0.f0=1", 0);
        fault("when t0.f0 ^is 1 : wish t0.f0=1", 0);
    }

    private void values() {
        of("VALUE: REF | max REF N | min REF N | age THING.");
        stands("when t1.f2=1 : wish t0.f0=1");
        stands("when max t1.f2 5=1 : wish t0.f0=1");
        stands("when min t1.f2 5=1 : wish t0.f0=1");
        stands("when age t1=1 : wish t0.f0=1");
        fault("when t1.f2 ^5=1 : wish t0.f0=1", 0);
        fault("when t1^=1 : wish t0.f0=1", 0);
        fault("when max t1^ 5=1 : wish t0.f0=1", 0);
        fault("when max t1.f2^=1 : wish t0.f0=1", 0);
        fault("when min t1.f2 ^=1 : wish t0.f0=1", 0);
        fault("when max ^5=1 : wish t0.f0=1", 0);
        fault("when max ^age t1=1 : wish t0.f0=1", 0);
        fault("when max ^max t1.f2 5=1 : wish t0.f0=1", 0);
        fault("when max ^not t1.f2 5=1 : wish t0.f0=1", 0);
        fault("when max ^[t1.f2 5=1] : wish t0.f0=1", 0);
        fault("when age t1^.f0=1 : wish t0.f0=1", 0);
        fault("when age t1 ^5=1 : wish t0.f0=1", 0);
        fault("when age ^=1 : wish t0.f0=1", 0);
        fault("when age ^", 0);
        fault("when ^sum t1.f2 5=1 : wish t0.f0=1", 0);
    }

    private void things() {
        of("THING: t and a number, at once (t12); REF: a THING, . f and a number, at once (t12.f0).");
        ThingPost x = Check.withThings(40);
        check.due("the last thing and field", Check.rule(x, 0, "when t39.f2=1 : wish t12.f0=1"), 0);
        check.due("its age", Check.rule(x, 0, "when age t39=1 : order t12 1"), 1);
        fault("when t^ 0.f0=1 : wish t0.f0=1", 0);
        fault("when t0^ .f0=1 : wish t0.f0=1", 0);
        fault("when t0.^ f0=1 : wish t0.f0=1", 0);
        fault("when t0.f^ 0=1 : wish t0.f0=1", 0);
        fault("when t^.f0=1 : wish t0.f0=1", 0);
        fault("when t0^f0=1 : wish t0.f0=1", 0);
        fault("when t0.^0=1 : wish t0.f0=1", 0);
        fault("when t0.f^=1 : wish t0.f0=1", 0);
        fault("when t0.^F0=1 : wish t0.f0=1", 0);
        fault("when t0.f0^.f0=1 : wish t0.f0=1", 0);
        fault("when t^-0.f0=1 : wish t0.f0=1", 0);
        fault("when t0.f^-0=1 : wish t0.f0=1", 0);
    }

    private void reaches() {
        of("N: a number 1 to 60.");
        stands("when max t0.f0 1=1 : order t0 1");
        stands("when min t0.f0 60=1 for 60 : order t0 60");
        stands("when t0.f0=1 for 1 : wish t0.f0=1");
        String[] outOf = {"0", "61", "100", "999999", "000000", "000061"};
        for (String n : outOf) {
            fault("when max t0.f0 ^" + n + "=1 : wish t0.f0=1", 1);
            fault("when min t0.f0 ^" + n + "=1 : wish t0.f0=1", 1);
            fault("when t0.f0=1 for ^" + n + " : wish t0.f0=1", 1);
            fault("when t0.f0=1 : order t0 ^" + n, 1);
        }
        fault("when t0.f0=1 for ^-1 : wish t0.f0=1", 0);
    }

    private void numbers() {
        of("NUMBER: 1 to 6 digits, - ahead of them (at once) or not.");
        truth("t0.f0=1", 1);
        truth("t0.f0=000001", 1);
        truth("t0.f0<999999", 1);
        truth("t0.f0>-999999", 1);
        truth("t0.f0>-0", 1);
        truth("t0.f0>= -1", 1);
        truth("t0.f0<= -1", 0);
        stands("when t0.f0=1 : wish t0.f0=-999999");
        fault("when t0.f0=^1000000 : wish t0.f0=1", 1);
        fault("when t0.f0=-^1000000 : wish t0.f0=1", 1);
        fault("when t0.f0= ^: wish t0.f0=1", 0);
        fault("when t0.f0=-^ 1 : wish t0.f0=1", 0);
        fault("when t0.f0=-^-1 : wish t0.f0=1", 0);
        fault("when t0.f0=-^: wish t0.f0=1", 0);
        fault("when t0.f0=^+1 : wish t0.f0=1", 0);
        fault("when t0.f0=1^-: wish t0.f0=1", 0);
        fault("when t0.f0=1 : wish t0.f0=^1234567", 1);
        fault("when t0.f0=1 : wish t0.f0=-^", 0);
    }

    private void digits() {
        of("All numbers have 1 to 6 digits, and go as far as digits go on.");
        stands("when t000001.f000002=000001 for 000001 : order t000000 000001");
        fault("when t^0000001.f0=1 : wish t0.f0=1", 1);
        fault("when t0.f^0000000=1 : wish t0.f0=1", 1);
        fault("when t0.f0=^0000001 : wish t0.f0=1", 1);
        fault("when t0.f0=1 for ^0000001 : wish t0.f0=1", 1);
        fault("when max t0.f0 ^0000001=1 : wish t0.f0=1", 1);
        fault("when t0.f0=1 : order t0 ^0000001", 1);
        fault("when t0.f0=1 ^2 : wish t0.f0=1", 0);
        fault("when t0.f0=^" + repeat("9", 100), 1);
        fault("when max t0.f^05=1 : wish t0.f0=1", 1);
        fault("when t0.f0=1 : order t01^", 0);
    }

    private void atOnce() {
        of("(What must come at once and does not: FAULT 0 at the byte that comes; behind f at that behind it.)");
        fault("when t^=1", 0);
        fault("when t^", 0);
        fault("when age t^ 0=1", 0);
        fault("when t0^=1", 0);
        fault("when t0^", 0);
        fault("when t0^,f0=1", 0);
        fault("when t0.^=1", 0);
        fault("when t0.^", 0);
        fault("when t0.^g0=1", 0);
        fault("when t0.^xf0=1", 0);
        fault("when t0.f^=1", 0);
        fault("when t0.f^", 0);
        fault("when t0.f^x=1", 0);
        fault("when t0.f^f0=1", 0);
        fault("when t0.f^or=1", 0);
        fault("when t0.f0=-^x", 0);
        fault("when t0.f0=-^", 0);
    }

    private void blanks() {
        of("Blanks (32) stand between as one likes;");
        stands("when t0.f0=1:wish t0.f0=1");
        stands("when[t0.f0=1]for 5unless[not[t0.f0=1]]:wish t0.f0=1");
        stands("when t0.f0=1for 5unless t0.f0<=-2and t0.f0=3or t0.f0=4:order t0 5");
        stands("   when   t0.f0   <=   -1   for   5   unless   [   not   age   t0   >   1   ]   :   order   t0   5   ");
        stands("when max t0.f0   5=1:wish   t0.f0   =   1");
        for (char other : new char[] {0, 1, 9, 10, 11, 13, 31, 33, 127, 128, 160, 255}) {
            fault("when t0.f0=1^" + other + ": wish t0.f0=1", 0);
            fault("^" + other + "when t0.f0=1: wish t0.f0=1", 0);
            fault("when t0.f0=1: wish t0.f0=1^" + other, 0);
        }
        fault("when t0.f0< ^= 1 : wish t0.f0=1", 0);
    }

    private void words() {
        of("WORDS are small letters as far as these go on.");
        fault("^whent0.f0=1 : wish t0.f0=1", 0);
        fault("^wen t0.f0=1 : wish t0.f0=1", 0);
        fault("^whe", 0);
        fault("^When t0.f0=1 : wish t0.f0=1", 0);
        fault("^WHEN t0.f0=1 : wish t0.f0=1", 0);
        fault("when ^nott0.f0=1 : wish t0.f0=1", 0);
        fault("when ^maxt0.f0 5=1 : wish t0.f0=1", 0);
        fault("when ^aget0=1 : wish t0.f0=1", 0);
        fault("when ^tx=1", 0);
        fault("when ^tt0.f0=1", 0);
        fault("when age ^tt0=1", 0);
        fault("when max ^tx.f0 5=1", 0);
        fault("when ^T0.f0=1 : wish t0.f0=1", 0);
        fault("when t0.f0=1 ^ort0.f0=1 : wish t0.f0=1", 0);
        fault("when t0.f0=1 ^andt0.f0=1 : wish t0.f0=1", 0);
        fault("when t0.f0=1 ^unlesst0.f0=1 : wish t0.f0=1", 0);
        fault("when t0.f0=1 ^forx 5 : wish t0.f0=1", 0);
        fault("when t0.f0=1 : ^wisht0.f0=1", 0);
        fault("when t0.f0=1 : ^ordert0 1", 0);
        fault("when t0.f0=1 : ^wis t0.f0=1", 0);
        fault("when t0.f0=1^x : wish t0.f0=1", 0);
        stands("when t0.f0=1 for5 : order t0 5");
        stands("when not[t0.f0=1]or[t0.f0=1]and[t0.f0=1] : order t0 5");
    }

    private void depth() {
        of("not and [ lie within one another 5 deep at most;");
        stands("when not not not not not t0.f0=1 : wish t0.f0=1");
        stands("when [[[[[t0.f0=1]]]]] : wish t0.f0=1");
        stands("when not [ not [ not t0.f0=1 ] ] : wish t0.f0=1");
        stands("when [ not [ not [ t0.f0=1 ] ] ] : wish t0.f0=1");
        fault("when not not not not not ^not t0.f0=1 : wish t0.f0=1", 2);
        fault("when [[[[[^[t0.f0=1]]]]]] : wish t0.f0=1", 2);
        fault("when not [ not [ not ^[ t0.f0=1 ] ] ] : wish t0.f0=1", 2);
        fault("when [ not [ not [ ^not t0.f0=1 ] ] ] : wish t0.f0=1", 2);
        stands("when [[[[[t0.f0=1]]]]] and [[[[[t0.f0=1]]]]] or not not not not not t0.f0=1 : wish t0.f0=1");
        stands("when [[[[[t0.f0=1]]]]] unless [[[[[t0.f0=1]]]]] : wish t0.f0=1");
        stands("when [[[[not t0.f0=1 and not t0.f0=1]] and [[not t0.f0=1]]]] : wish t0.f0=1");
        fault("when t0.f0=1 unless [[[[[^[t0.f0=1]]]]]] : wish t0.f0=1", 2);
        truth("not not not not not t0.f0=1", 0);
        truth("[not[not[t0.f0=1]]]", 1);
    }

    private void facts() {
        of("at most 16 FACTS with a SIGN.");
        String more = repeat("or t0.f0=1", 15);
        stands("when t0.f0=1" + more + ":wish t0.f0=1");
        fault("when t0.f0=1" + more + "or ^t0.f0=1:wish t0.f0=1", 3);
        String eight = repeat("or t0.f0=1", 7);
        stands("when t0.f0=1" + eight + "unless t0.f0=1" + eight + ":wish t0.f0=1");
        fault("when t0.f0=1" + eight + "unless t0.f0=1" + eight + "or ^t0.f0=1:wish t0.f0=1", 3);
        stands("when not[not t0.f0=1]" + more + ":wish t0.f0=1");
        ThingPost x = Check.withThings(2);
        x.word(0, 1, 0, 3, Check.NOTHING, Check.NOTHING);
        String none = repeat("or t0.f0=1", 14);
        check.due("the 16th counts", Check.rule(x, 0, "when t0.f0=1" + none + "or t0.f0=3:wish t0.f0=1"), 0);
        check.due("it is true", x.held(0, 0, 0), 1);
    }

    private void faultsByPlace() {
        of("FAULTS, the first along the text, 1 + 8 * its place and:");
        ThingPost x = Check.withThings(2);
        check.due("the empty text: fault 1", x.rule(0), -3);
        check.due("FAULT 0 at place 5: fault 41", Check.rule(x, 0, "when :"), -43);
        check.due("FAULT 1 at place 6: fault 50", Check.rule(x, 0, "when t40.f0=1"), -52);
        check.due("FAULT 2 at place 10: fault 83", Check.rule(x, 0, "when [[[[[["), -85);
        check.due("FAULT 4 at place 5: fault 45", Check.rule(x, 0, "when t2.f0=1"), -47);
        String seventeen = "when t0.f0=1" + repeat("or t0.f0=1", 15) + "or t0";
        check.due("FAULT 3 at place 165: fault 1324", Check.rule(x, 0, seventeen), -2 - 1 - 8 * 165 - 3);
        check.due("FAULT 0 at place 200: fault 1601", Check.rule(x, 0, repeat(" ", 200)), -1603);
        fault("when ^t2.f3=1234567 x", 4);
        fault("when t0.f^3=1234567 or t2.f0=1", 1);
        fault("when t0.f0=^1234567 or t2.f0=1", 1);
        fault("when t0.f0=1 ^x t2.f0=1", 0);
        fault("when max ^t2.f3 61=1234567", 4);
        fault("when max t0.f^3 61=1234567", 1);
        fault("when max t0.f0 ^61=1234567", 1);
    }

    private void cannotStand() {
        of("0 a byte or WORD that can't stand there, or the end (behind the last byte);");
        fault("^", 0);
        fault("  ^", 0);
        fault("when^", 0);
        fault("when ^", 0);
        fault("when t0.f0^", 0);
        fault("when t0.f0 ^", 0);
        fault("when t0.f0=^", 0);
        fault("when t0.f0=1^", 0);
        fault("when max^", 0);
        fault("when min^5", 0);
        fault("when age^=1", 0);
        fault("when max^.f0 5=1", 0);
        fault("when t0.f0=1 for^", 0);
        fault("when t0.f0=1 for 5^", 0);
        fault("when t0.f0=1 unless^", 0);
        fault("when t0.f0=1 unless not^", 0);
        fault("when [t0.f0=1^", 0);
        fault("when t0.f0=1:^", 0);
        fault("when t0.f0=1:wish^", 0);
        fault("when t0.f0=1:wish t0^", 0);
        fault("when t0.f0=1:wish t0.f0^", 0);
        fault("when t0.f0=1:wish t0.f0=^", 0);
        fault("when t0.f0=1:order^", 0);
        fault("when t0.f0=1:order t0^", 0);
        fault("^if t0.f0=1", 0);
        fault("^5", 0);
        fault("when ^=1", 0);
        fault("when ^when t0.f0=1", 0);
        fault("when t0.f0=1:wish t0.f0=1 ^x", 0);
        fault("when t0.f0=1:wish t0.f0=1 ^1", 0);
        fault("when t0.f0=1:order t0 6 ^7", 0);
    }

    private void notAsTold() {
        of("1 a number not as told (more than 6 digits, N not 1 to 60, a THING above 39, a FIELD above 2; at its first"
            + " digit);");
        fault("when t0.f0=^1234567", 1);
        fault("when t0.f0=-^1234567", 1);
        fault("when max t0.f0 ^0=1", 1);
        fault("when max t0.f0 ^61=1", 1);
        fault("when t^40.f0=1", 1);
        fault("when t^99.f0=1", 1);
        fault("when t^999999.f0=1", 1);
        fault("when age t^40=1", 1);
        fault("when t0.f^3=1", 1);
        fault("when t0.f^999999=1", 1);
        fault("when t0.f0=1 : wish t^40.f0=1", 1);
        fault("when t0.f0=1 : wish t0.f^3=1", 1);
        fault("when t0.f0=1 : order t^40 1", 1);
        stands("when t1.f2=999999 : order t1 60");
        fault("when ^t39.f0=1", 4);
    }

    private void tooDeep() {
        of("2 too deep (at the sign [ or the word not);");
        fault("when not not [ [ [ ^not", 2);
        fault("when not not [ [ [ ^[", 2);
        fault("when [[[[[t0.f0=1 and ^[", 2);
        fault("when [[[[[t0.f0=1 or ^not", 2);
        fault("when [[[[[ ^nott", 0);
    }

    private void factTooMany() {
        of("3 one FACT too many (at its VALUE's first byte);");
        String full = "when t0.f0=1" + repeat("or t0.f0=1", 15);
        fault(full + "or ^t0.f0=1", 3);
        fault(full + "or ^max t0.f0 5=1", 3);
        fault(full + "or ^min", 3);
        fault(full + "or ^age t0=1", 3);
        fault(full + "and not ^t0.f0=1", 3);
        fault(full + "and [ ^t0.f0=1", 3);
        fault(full + "unless ^t0.f0=1", 3);
    }

    private void noSuchThing() {
        of("4 a THING that is not there (at its t).");
        fault("when ^t2.f0=1", 4);
        fault("when ^t39.f0=1", 4);
        fault("when max ^t2.f0 5=1", 4);
        fault("when age ^t2=1", 4);
        fault("when t0.f0=1 : wish ^t2.f0=1", 4);
        fault("when t0.f0=1 : order ^t2 1", 4);
        stands("when t1.f0=1 : order t1 1");
        ThingPost x = new ThingPost();
        check.due("no thing is there", Check.rule(x, 0, "when t0.f0=1"), Check.fault(5, 4));
        x.thing(0, 0);
        check.due("it is there", Check.rule(x, 0, "when t0.f0=1:wish t0.f0=1"), 0);
        check.due("the next one is not", Check.rule(x, 0, "when t1.f0=1"), Check.fault(5, 4));
    }

    private void leastOfOnePlace() {
        of("Of one place the least.");
        String full = "when t0.f0=1" + repeat("or t0.f0=1", 15);
        fault(full + "or ^t2.f0=1", 3);
        fault(full + "or ^t39.f0=1", 3);
        fault(full + "or ^tx", 0);
        fault(full + "or ^maxi", 0);
        fault(full + "or ^5", 0);
    }
}
