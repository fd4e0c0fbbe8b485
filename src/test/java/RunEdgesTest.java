/** The boundary cases of promises 10 to 14, and of RUNS: a method for each sentence, which it names. */
public final class RunEdgesTest {
    private static final int BAD = -1, NONE = -9;
    private static final int LOW = Integer.MIN_VALUE, HIGH = Integer.MAX_VALUE;
    private static final int[] NO_FLAGS = {-1, 2, 3, LOW, HIGH};
    /** All values are 3. */
    private static final String LAST = "&&=a3=b3&=c3=d3";
    private static final String ALL_ANY = "hahbhchd";

    private static void wrong(PassiveChecks x, int cut, int check, int many, int lowest) {
        Check.due("wrong(" + cut + ", " + check + ", 0)", x.wrong(cut, check, 0), many);
        Check.due("wrong(" + cut + ", " + check + ", 1)", x.wrong(cut, check, 1), lowest);
    }

    private static void from(PassiveChecks x, int cut, int state, int lowest, int ends, int thrown) {
        Check.due("from(" + cut + ", " + state + ", 0)", x.from(cut, state, 0), lowest);
        Check.due("from(" + cut + ", " + state + ", 1)", x.from(cut, state, 1), ends);
        Check.due("from(" + cut + ", " + state + ", 2)", x.from(cut, state, 2), thrown);
        Check.due("ends(" + cut + ", " + state + ", 0, -1) tells the same", x.ends(cut, state, 0, -1) > 0 ? 1 : 0, ends);
        Check.due("ends(" + cut + ", " + state + ", 1, -1) tells the same", x.ends(cut, state, 1, -1) > 0 ? 1 : 0, thrown);
    }

    private static void ends(PassiveChecks x, int cut, int state, int what, int... states) {
        String call = "ends(" + cut + ", " + state + ", " + what + ", ";
        Check.due(call + "-1)", x.ends(cut, state, what, -1), states.length);
        for (int k = 0; k < states.length; k++) {
            Check.due(call + k + ")", x.ends(cut, state, what, k), states[k]);
        }
        Check.due(call + states.length + ")", x.ends(cut, state, what, states.length), NONE);
        Check.due(call + "MAX)", x.ends(cut, state, what, HIGH), NONE);
    }

    /** In runs and in cut runs. */
    private static void endsInBoth(PassiveChecks x, int state, int what, int... states) {
        ends(x, 0, state, what, states);
        ends(x, 1, state, what, states);
    }

    // ---- promise 10

    private static void wrongRange() {
        Check.sentence("promise 10: BAD if there is no such check or another argument is out of range");
        Check.due("wrong(0, 0, 0) of a new object", new PassiveChecks().wrong(0, 0, 0), BAD);
        PassiveChecks x = Check.with("k0k1", 2);
        Check.due("wrong(1, 1, 1)", x.wrong(1, 1, 1), NONE);
        for (int flag : NO_FLAGS) {
            Check.due("wrong(" + flag + ", 0, 0)", x.wrong(flag, 0, 0), BAD);
            Check.due("wrong(0, " + flag + ", 0)", x.wrong(0, flag, 0), BAD);
            Check.due("wrong(1, " + flag + ", 1)", x.wrong(1, flag, 1), BAD);
            Check.due("wrong(0, 0, " + flag + ")", x.wrong(0, 0, flag), BAD);
            Check.due("wrong(0, 1, " + flag + "), where none is wrong", x.wrong(0, 1, flag), BAD);
        }
        PassiveChecks full = Check.with("k1".repeat(15) + "k0", 16);
        wrong(full, 0, 15, 256, 0);
        Check.due("wrong(0, 16, 0)", full.wrong(0, 16, 0), BAD);
        Check.due("wrong(1, 16, 1)", full.wrong(1, 16, 1), BAD);
    }

    private static void wrongNone() {
        Check.sentence("promise 10: returns the number, or the state, or NONE if there is none");
        PassiveChecks x = Check.with("k1 k!" + LAST + "k||a|bc|d1 k|" + LAST + "|a|b|cd k0", 5);
        for (int cut = 0; cut < 2; cut++) {
            wrong(x, cut, 0, 0, NONE);
            wrong(x, cut, 1, 1, 255);
            wrong(x, cut, 2, 0, NONE);
            wrong(x, cut, 3, 1, 0);
            wrong(x, cut, 4, 254, 1);
        }
    }

    // ---- promise 11

    private static void spuriousRange() {
        Check.sentence("promise 11: BAD if there is no such check");
        Check.due("spurious(0) of a new object", new PassiveChecks().spurious(0), BAD);
        PassiveChecks x = Check.with("w00()", 1);
        Check.due("spurious(0)", x.spurious(0), 256);
        Check.due("spurious(1)", x.spurious(1), 0);
        for (int check : new int[] {-1, 2, 16, LOW, HIGH}) {
            Check.due("spurious(" + check + ")", x.spurious(check), BAD);
        }
        PassiveChecks full = Check.with("k1".repeat(15) + "k0", 16);
        Check.due("spurious(15)", full.spurious(15), 0);
        Check.due("spurious(16)", full.spurious(16), BAD);
    }

    private static void spuriousStates() {
        Check.sentence("promise 11: the states from which some cut run, but no run, fails");
        PassiveChecks x = Check.with("w0 1(" + ALL_ANY + ")k" + LAST, 6);
        wrong(x, 0, 2, 255, 0);
        wrong(x, 1, 2, 256, 0);
        Check.due("spurious(2), one state", x.spurious(2), 1);
        PassiveChecks y = Check.with("w!a 1(a1)k!=b1", 3);
        wrong(y, 0, 2, 64, 16);
        wrong(y, 1, 2, 64, 16);
        Check.due("spurious(2), none", y.spurious(2), 0);
        PassiveChecks z = Check.with("wa 1()k0", 2);
        wrong(z, 0, 2, 64, 0);
        wrong(z, 1, 2, 64, 0);
        Check.due("spurious(2), none", z.spurious(2), 0);
        PassiveChecks u = Check.with("wa 0(a0)k0", 3);
        wrong(u, 0, 2, 256, 0);
        wrong(u, 1, 2, 0, NONE);
        Check.due("spurious(2), where runs fail and no cut run", u.spurious(2), 0);
        Check.due("spurious(0), all", u.spurious(0), 256);
    }

    // ---- promise 12

    private static void fromRange() {
        Check.sentence("promise 12: BAD if an argument is out of range");
        PassiveChecks x = Check.with("ka", 1);
        Check.due("from(1, 255, 2)", x.from(1, 255, 2), 0);
        for (int flag : NO_FLAGS) {
            Check.due("from(" + flag + ", 0, 0)", x.from(flag, 0, 0), BAD);
        }
        for (int state : new int[] {-1, 256, LOW, HIGH}) {
            for (int what = 0; what < 3; what++) {
                Check.due("from(0, " + state + ", " + what + ")", x.from(0, state, what), BAD);
                Check.due("from(1, " + state + ", " + what + ")", x.from(1, state, what), BAD);
            }
        }
        for (int what : new int[] {-1, 3, 4, LOW, HIGH}) {
            Check.due("from(0, 64, " + what + ")", x.from(0, 64, what), BAD);
        }
    }

    private static void fromLowest() {
        Check.sentence("promise 12: the lowest check at which some run fails, or NONE if no run fails");
        PassiveChecks x = Check.with("k1".repeat(15) + "k!" + LAST, 16);
        from(x, 0, 255, 15, 0, 0);
        from(x, 0, 254, NONE, 1, 0);
        from(x, 1, 255, 15, 0, 0);
        from(x, 1, 0, NONE, 1, 0);
        PassiveChecks y = Check.with("ha ia(k!=a1 k!=a2 k!=a3)(k1 t)", 7);
        from(y, 0, 9, 0, 0, 1);
        PassiveChecks z = Check.with("ia(k0)(k0)", 3);
        from(z, 0, 0, 1, 0, 0);
        from(z, 0, 64, 0, 0, 0);
    }

    private static void fromFlags() {
        Check.sentence("promise 12: whether some run ends, whether some run is thrown (1 or 0)");
        PassiveChecks x = Check.with("hb ib(i=b1(t)(i=b2(k0)()))(s0)", 7);
        from(x, 0, 0, 0, 1, 1);
        from(x, 1, 255, 0, 1, 1);
        from(Check.with("t", 1), 0, 0, NONE, 0, 1);
        from(Check.with("s0", 1), 0, 0, NONE, 0, 0);
        from(Check.with("k0", 1), 0, 0, 0, 0, 0);
        from(new PassiveChecks(), 0, 0, NONE, 1, 0);
        from(new PassiveChecks(), 1, 255, NONE, 1, 0);
    }

    // ---- promise 13

    private static void endsRange() {
        Check.sentence("promise 13: BAD if k is below -1 or another argument is out of range");
        PassiveChecks x = Check.with("ha", 1);
        Check.due("ends(1, 255, 1, -1)", x.ends(1, 255, 1, -1), 0);
        for (int k : new int[] {-2, -3, LOW}) {
            Check.due("ends(0, 0, 0, " + k + ")", x.ends(0, 0, 0, k), BAD);
            Check.due("ends(0, 0, 1, " + k + "), where none is thrown", x.ends(0, 0, 1, k), BAD);
        }
        for (int flag : NO_FLAGS) {
            Check.due("ends(" + flag + ", 0, 0, 0)", x.ends(flag, 0, 0, 0), BAD);
            Check.due("ends(0, 0, " + flag + ", 0)", x.ends(0, 0, flag, 0), BAD);
            Check.due("ends(0, 0, " + flag + ", 99)", x.ends(0, 0, flag, 99), BAD);
        }
        for (int state : new int[] {-1, 256, LOW, HIGH}) {
            Check.due("ends(0, " + state + ", 0, 0)", x.ends(0, state, 0, 0), BAD);
            Check.due("ends(1, " + state + ", 1, -1)", x.ends(1, state, 1, -1), BAD);
        }
    }

    private static void endsIndex() {
        Check.sentence("promise 13: -1 for how many; otherwise an index in ascending order; NONE if there is no such index");
        PassiveChecks x = Check.with("hd hb", 2);
        ends(x, 0, 66, 0, 64, 65, 66, 67, 80, 81, 82, 83, 96, 97, 98, 99, 112, 113, 114, 115);
        ends(x, 0, 66, 1);
        ends(Check.with("k0", 1), 0, 0, 0);
        ends(new PassiveChecks(), 1, 255, 0, 255);
        ends(new PassiveChecks(), 0, 0, 0, 0);
    }

    private static void endsInAllStates() {
        Check.sentence("promise 13: all 256 states");
        PassiveChecks x = Check.with(ALL_ANY, 4);
        PassiveChecks y = Check.with(ALL_ANY + "t", 5);
        PassiveChecks z = Check.with("w01(" + ALL_ANY + ")", 5);
        for (int k : new int[] {0, 1, 254, 255}) {
            Check.due("ends(0, 9, 0, " + k + ")", x.ends(0, 9, 0, k), k);
            Check.due("ends(0, 9, 1, " + k + ")", y.ends(0, 9, 1, k), k);
            Check.due("ends(1, 9, 0, " + k + ")", z.ends(1, 9, 0, k), k);
        }
        Check.due("ends(0, 9, 0, -1)", x.ends(0, 9, 0, -1), 256);
        Check.due("ends(0, 9, 1, -1)", y.ends(0, 9, 1, -1), 256);
        Check.due("ends(1, 9, 0, -1)", z.ends(1, 9, 0, -1), 256);
        Check.due("ends(0, 9, 0, 256)", x.ends(0, 9, 0, 256), NONE);
        Check.due("ends(0, 9, 1, 256)", y.ends(0, 9, 1, 256), NONE);
        Check.due("ends(1, 9, 0, 256)", z.ends(1, 9, 0, 256), NONE);
        ends(z, 0, 9, 0, 9);
    }

    // ---- promise 14

    private static void keeps(String program, int statements, int l, int states, int rounds) {
        PassiveChecks x = Check.with(program, statements);
        Check.due("keeps(" + l + ", 0)", x.keeps(l, 0), states);
        Check.due("keeps(" + l + ", 1)", x.keeps(l, 1), rounds);
        Check.due("keeps(" + l + ", 0) again", x.keeps(l, 0), states);
    }

    private static void keepsRange() {
        Check.sentence("promise 14: BAD if there is no such loop or what is not 0 or 1");
        Check.due("keeps(0, 0) of a new object", new PassiveChecks().keeps(0, 0), BAD);
        PassiveChecks one = Check.with("w11()", 1);
        Check.due("keeps(0, 1)", one.keeps(0, 1), 0);
        Check.due("keeps(1, 1)", one.keeps(1, 1), BAD);
        PassiveChecks x = Check.with("w11()w11()w11()w11()", 4);
        Check.due("keeps(3, 0)", x.keeps(3, 0), 256);
        for (int l : new int[] {-1, 4, 5, LOW, HIGH}) {
            Check.due("keeps(" + l + ", 0)", x.keeps(l, 0), BAD);
            Check.due("keeps(" + l + ", 1)", x.keeps(l, 1), BAD);
        }
        for (int flag : NO_FLAGS) {
            Check.due("keeps(0, " + flag + ")", x.keeps(0, flag), BAD);
        }
    }

    private static void keepsAllOrNone() {
        Check.sentence("promise 14: all states, or none");
        keeps("w11(hahbhchd)", 5, 0, 256, 0);
        keeps("w10()", 1, 0, 0, 0);
        keeps("w10(ha)", 2, 0, 0, 0);
        keeps("w1" + LAST + "()", 1, 0, 1, 0);
        keeps("w1" + LAST + "(hd)", 2, 0, 0, 1);
        keeps("w1!" + LAST + "(" + ALL_ANY + ")", 5, 0, 0, 1);
    }

    private static void keepsFirstTerm() {
        Check.sentence("promise 14: begins in a state of the set in which the first term of the loop is true");
        keeps("w0a(a0)", 2, 0, 192, 0);
        keeps("w=a1a(a0)", 2, 0, 128, 1);
        keeps("w<a2<a3(a+a1)", 2, 0, 192, 0);
        keeps("w" + LAST + "d(d0)", 2, 0, 191, 1);
    }

    private static void keepsRounds() {
        Check.sentence("promise 14: the number of rounds in which some state is removed; all at the same time");
        keeps("w1 !a(a=b1 b+b1)", 3, 0, 0, 4);
        keeps("w1 <a3(a+a1)", 2, 0, 0, 3);
        keeps("w1 <0a(a-a1)", 2, 0, 0, 3);
        keeps("w1 !=d3(d+d1ic(hd)())", 4, 0, 0, 3);
        keeps("w1 !" + LAST + "(d+d1id()(c+c1ic()(b+b1ib()(a+a1))))", 8, 0, 0, 255);
    }

    private static void keepsOnlyThoseAtTheEnd() {
        Check.sentence("promise 14: and that reaches the end of the block");
        keeps("w1 a(a0 k0)", 3, 0, 192, 0);
        keeps("w1 a(a0 s0)", 3, 0, 192, 0);
        keeps("w1 a(a0 t)", 3, 0, 192, 0);
        keeps("y(w1 a(a0 t))(a0)", 5, 0, 192, 0);
        keeps("w1 1(y(w1 a(a0 t))())", 5, 1, 192, 0);
        keeps("w1 a(y(t)(a0))", 4, 0, 0, 1);
        keeps("w1 a(a0 p0b1)", 3, 0, 192, 0);
        keeps("w1 a(a0 pbc1)", 3, 0, 48, 1);
        keeps("w1 a(w11(a0))", 3, 0, 192, 0);
        keeps("w1 a(w0b(a0))", 3, 0, 48, 1);
        keeps("w1 a(w01(hb)i=b2(a0)())", 5, 0, 0, 1);
        keeps("w1 a(w11(a0)a0)w1 1(a0)", 6, 1, 256, 0);
    }

    private static void keepsCutRuns() {
        Check.sentence("promise 14: each cut run of its block alone");
        keeps("w1 !b(wa1(b1 a0))", 4, 0, 0, 1);
        keeps("w1 !b(wa!b(b1 a0))", 4, 0, 64, 0);
        keeps("w1 !b(wa!a(b1 a0))", 4, 0, 48, 1);
        keeps("w1 1(w1 !b(hb) t)", 4, 1, 0, 1);
    }

    private static void keepsAfterOtherQuestions() {
        Check.sentence("promise 14: whatever was asked before, and of each loop");
        PassiveChecks x = Check.with("y(w1 <1b(t))(k0)", 4);
        wrong(x, 1, 2, 128, 32);
        from(x, 0, 32, 2, 0, 0);
        Check.due("keeps(0, 0)", x.keeps(0, 0), 128);
        Check.due("keeps(0, 1)", x.keeps(0, 1), 0);
        PassiveChecks y = Check.with("w1 <1b(t)", 2);
        wrong(y, 1, 0, 128, 0);
        Check.due("keeps(0, 0)", y.keeps(0, 0), 128);
        wrong(y, 1, 0, 128, 0);
        PassiveChecks z = Check.with("w1 a(a0)w1 <a3(a+a1)w0 b()w1 !c(c=d1)", 7);
        int[] states = {0, 0, 192, 48};
        int[] rounds = {1, 3, 0, 1};
        for (int l = 3; l >= 0; l--) {
            Check.due("keeps(" + l + ", 0)", z.keeps(l, 0), states[l]);
        }
        for (int l = 0; l < 4; l++) {
            Check.due("keeps(" + l + ", 1)", z.keeps(l, 1), rounds[l]);
            Check.due("keeps(" + l + ", 0)", z.keeps(l, 0), states[l]);
        }
        for (int l = 0; l < 4; l++) {
            Check.invariant(z, l, "d", 1);
            Check.due("keeps(" + l + ", 0) of another invariant", z.keeps(l, 0), 192);
            Check.due("undo()", z.undo(), 1);
            Check.due("keeps(" + l + ", 0) of the first one", z.keeps(l, 0), states[l]);
        }
    }

    // ---- changes

    private static void askedAfterChanges() {
        Check.sentence("promises 10 to 14: of the program that is present when it is asked");
        PassiveChecks x = Check.with("a1", 1);
        ends(x, 0, 5, 0, 69);
        Check.change(x, "a2", 1);
        ends(x, 0, 5, 0, 133);
        Check.due("keep(0)", x.keep(0), 1);
        Check.due("undo()", x.undo(), 1);
        ends(x, 0, 5, 0, 69);
        Check.due("back(0)", x.back(0), 1);
        ends(x, 0, 5, 0, 133);
        ends(x, 1, 5, 0, 133);
        ends(x, 1, 6, 0, 134);
        from(x, 0, 6, NONE, 1, 0);
        ends(x, 1, 6, 0, 134);
        Check.change(x, "w1 a(t)", 2);
        ends(x, 1, 64, 1, 64);
        wrong(x, 1, 0, 64, 0);
        Check.due("spurious(0)", x.spurious(0), 64);
        Check.invariant(x, 0, "b", 1);
        ends(x, 1, 64, 1);
        wrong(x, 1, 0, 64, 0);
        Check.due("from(1, 16, 2)", x.from(1, 16, 2), 1);
        Check.due("from(1, 64, 2)", x.from(1, 64, 2), 0);
        PassiveChecks y = Check.with("w1 a(ha)", 2);
        wrong(y, 1, 0, 64, 0);
        wrong(y, 1, 1, 192, 64);
        wrong(y, 0, 0, 0, NONE);
        wrong(y, 0, 1, 0, NONE);
        wrong(y, 1, 1, 192, 64);
    }

    // ---- RUNS

    private static void failedRunIsOver() {
        Check.sentence("RUNS: if the term is false, the run fails at this check and is over");
        PassiveChecks x = Check.with("ka k0 k0 t", 4);
        for (int cut = 0; cut < 2; cut++) {
            wrong(x, cut, 0, 64, 0);
            wrong(x, cut, 1, 192, 64);
            wrong(x, cut, 2, 0, NONE);
            from(x, cut, 0, 0, 0, 0);
        }
        PassiveChecks y = Check.with("y(k0 t)(k0)", 4);
        wrong(y, 0, 1, 0, NONE);
    }

    private static void blockedRunIsOver() {
        Check.sentence("RUNS: if the term is false, the run is blocked and is over");
        PassiveChecks x = Check.with("sa k0", 2);
        PassiveChecks y = Check.with("y(sa t)(k0)", 4);
        PassiveChecks z = Check.with("s0 t", 2);
        for (int cut = 0; cut < 2; cut++) {
            wrong(x, cut, 0, 192, 64);
            from(x, cut, 0, NONE, 0, 0);
            wrong(y, cut, 0, 192, 64);
            from(y, cut, 0, NONE, 0, 0);
            from(z, cut, 0, NONE, 0, 0);
        }
    }

    private static void assignmentAndHavoc() {
        Check.sentence("RUNS: the variable gets the value of the term; any value from 0 to 3");
        endsInBoth(Check.with("a+a1", 1), 192, 0, 0);
        endsInBoth(Check.with("d-d1", 1), 0, 0, 3);
        endsInBoth(Check.with("ba ab", 2), 67, 0, 83);
        endsInBoth(Check.with("ha", 1), 63, 0, 63, 127, 191, 255);
        endsInBoth(Check.with("hb", 1), 0, 0, 0, 16, 32, 48);
        endsInBoth(Check.with("hc", 1), 255, 0, 243, 247, 251, 255);
        endsInBoth(Check.with("hd", 1), 3, 0, 0, 1, 2, 3);
    }

    private static void calls() {
        Check.sentence("RUNS: a call is like an assertion of E1, then a havoc of v, then an assumption of E2");
        PassiveChecks x = Check.with("pa a=a2", 1);
        for (int cut = 0; cut < 2; cut++) {
            wrong(x, cut, 0, 64, 0);
            from(x, cut, 0, 0, 0, 0);
        }
        endsInBoth(x, 64, 0, 128);
        endsInBoth(Check.with("p1a0", 1), 64, 0);
        from(Check.with("p1a0 t", 2), 0, 64, NONE, 0, 0);
        endsInBoth(Check.with("p1b=ba", 1), 64, 0, 80);
        endsInBoth(Check.with("p2d3", 1), 0, 0, 0, 1, 2, 3);
        wrong(Check.with("p1cc kc k!=c3", 3), 0, 1, 0, NONE);
        wrong(Check.with("p1cc kc k!=c3", 3), 0, 2, 256, 0);
        wrong(Check.with("p0c1 k0", 2), 0, 1, 0, NONE);
    }

    private static void endlessLoop() {
        Check.sentence("RUNS: possibly for ever; in this case the run neither fails nor ends");
        PassiveChecks x = Check.with("w1 1()k0 t", 3);
        from(x, 0, 0, NONE, 0, 0);
        wrong(x, 0, 2, 0, NONE);
        from(Check.with("w1 1(a+a1 b-b1)", 3), 0, 0, NONE, 0, 0);
        from(Check.with("w1 1(y(t)())", 3), 0, 0, NONE, 0, 0);
        from(Check.with("w1 1(w1 1())", 2), 0, 0, NONE, 0, 0);
        from(Check.with("y(w1 1())(k0)", 3), 0, 0, NONE, 0, 0);
        PassiveChecks some = Check.with("wa 1()", 1);
        from(some, 0, 63, NONE, 1, 0);
        from(some, 0, 64, NONE, 0, 0);
        PassiveChecks may = Check.with("wa 1(ha)", 2);
        from(may, 0, 64, NONE, 1, 0);
        ends(may, 0, 255, 0, 63);
        PassiveChecks fails = Check.with("w1 1(k!" + LAST + "d+d1id()(c+c1ic()(b+b1ib()(a+a1))))", 9);
        wrong(fails, 0, 2, 256, 0);
        from(fails, 0, 0, 2, 0, 0);
    }

    /** What can happen from one state of a loop can happen from each state that leads to it, round after round. */
    private static void circles() {
        Check.sentence("RUNS: as long as the first term is true, in states that lead to one another");
        PassiveChecks x = Check.with("w1 1(hb i=b0(k!=a1)()a+a1)", 5);
        wrong(x, 0, 2, 256, 0);
        PassiveChecks y = Check.with("w!=b3 1(hb a+a1)", 3);
        ends(y, 0, 1, 0, 49, 113, 177, 241);
        ends(y, 0, 113, 0, 113);
        for (int state = 0; state < 256; state++) {
            Check.due("from(0, " + state + ", 1)", y.from(0, state, 1), 1);
        }
        PassiveChecks nested = Check.with("w1 1(w!=c3 1(hc a+a1 ib()(i=a2(t)())))", 7);
        Check.due("sees(17, 1)", nested.sees(17, 1), 1);
        Check.due("starts(0)", nested.starts(0), 48);
        from(nested, 0, 0, NONE, 0, 1);
        from(nested, 0, 12, NONE, 0, 0);
        from(nested, 0, 16, NONE, 0, 0);
        PassiveChecks two = Check.with("w!=a3 1(ha w!=b3 1(hb k!&=a1=b2))k=a3 k=b0", 7);
        wrong(two, 0, 4, 144, 0);
        wrong(two, 0, 5, 0, NONE);
        wrong(two, 0, 6, 240, 0);
        PassiveChecks caught = Check.with("w1 1(y(hd i=d2(t)(c+c1))(i=c3(k0)(hc)))", 9);
        wrong(caught, 0, 2, 256, 0);
        PassiveChecks later = Check.with("w1 1(i=a0(hb)()ib(k0)()a+a1)", 6);
        wrong(later, 0, 2, 256, 0);
        PassiveChecks inner = Check.with("w1 1(i=a0(hc)()ic(t)()w!=d0 1(d+d1)a+a1)", 8);
        Check.due("sees(17, 1)", inner.sees(17, 1), 1);
        Check.due("starts(0)", inner.starts(0), 256);
        PassiveChecks apart = Check.with("w1 1(i=a0(i=b0(hb)())()i&=b2=a1(k0)()a+a1)", 7);
        wrong(apart, 0, 2, 128, 0);
        from(apart, 0, 64, 2, 0, 0);
        from(apart, 0, 80, NONE, 0, 0);
        PassiveChecks leading = Check.with("w1 1(i=a0(i=b1(hb)())()i=b2(k0)()a+a1)", 7);
        wrong(leading, 0, 2, 128, 16);
        from(leading, 0, 80, 2, 0, 0);
        from(leading, 0, 64, NONE, 0, 0);
    }

    private static void loopNotEntered() {
        Check.sentence("RUNS: as long as the first term is true, the block is executed");
        PassiveChecks x = Check.with("w0 1(k0)", 2);
        from(x, 0, 0, NONE, 1, 0);
        wrong(x, 0, 2, 0, NONE);
        endsInBoth(x, 77, 0, 77);
        PassiveChecks once = Check.with("wa 1(a0 b+b1)", 3);
        ends(once, 0, 64, 0, 16);
        ends(once, 0, 0, 0, 0);
        ends(Check.with("w!=d3 1(d+d1 c+c1)", 3), 0, 0, 0, 15);
        ends(Check.with("w!" + LAST + "1(d+d1id()(c+c1ic()(b+b1ib()(a+a1))))", 8), 0, 0, 0, 255);
    }

    private static void invariantOfRuns() {
        Check.sentence("RUNS: the invariant does not matter");
        PassiveChecks x = Check.with("wa 0(a-a1)", 2);
        wrong(x, 0, 0, 0, NONE);
        wrong(x, 0, 1, 0, NONE);
        ends(x, 0, 255, 0, 63);
    }

    private static void tries() {
        Check.sentence("RUNS: the rest of the first block is skipped and the second block is executed");
        endsInBoth(Check.with("y(a1 t a2)(b1)c1", 6), 0, 0, 84);
        endsInBoth(Check.with("y(ia(t)()b1)(c1)", 5), 0, 0, 16);
        endsInBoth(Check.with("y(ia(t)()b1)(c1)", 5), 64, 0, 68);
        wrong(Check.with("y(a1)(k0)", 3), 0, 0, 0, NONE);
        wrong(Check.with("y()(k0)", 2), 0, 0, 0, NONE);
        endsInBoth(Check.with("y(t)()", 2), 9, 0, 9);
    }

    private static void innerTryCatches() {
        Check.sentence("RUNS: a throw that is not caught by a try within it");
        endsInBoth(Check.with("y(y(t)(b1)c1)(d1)", 6), 0, 0, 20);
        endsInBoth(Check.with("y(y()(b1) t c1)(d1)", 6), 0, 0, 1);
        endsInBoth(Check.with("y(i1(y(t)(b1))())(d1)", 6), 0, 0, 16);
    }

    private static void throwInSecondBlock() {
        Check.sentence("RUNS: a throw in the second block is not caught by this try");
        PassiveChecks x = Check.with("y(t)(a1 t a2)b1", 6);
        endsInBoth(x, 0, 1, 64);
        endsInBoth(x, 0, 0);
        PassiveChecks y = Check.with("y(y(t)(a1 t)b1)(c1)", 7);
        endsInBoth(y, 0, 0, 68);
        endsInBoth(y, 0, 1);
        endsInBoth(Check.with("y(t)(y(t)(a1 t)b1)", 7), 0, 1, 64);
    }

    private static void uncaughtThrow() {
        Check.sentence("RUNS: if no try catches it, the run is thrown in the present state and is over");
        PassiveChecks x = Check.with("a1 t k0 a2", 4);
        endsInBoth(x, 255, 1, 127);
        endsInBoth(x, 255, 0);
        wrong(x, 0, 0, 0, NONE);
        PassiveChecks y = Check.with("hc t", 2);
        endsInBoth(y, 0, 1, 0, 4, 8, 12);
        from(Check.with("y()()t", 2), 0, 0, NONE, 0, 1);
        from(Check.with("i1(t)(t)", 3), 1, 0, NONE, 0, 1);
    }

    private static void throwInLoop() {
        Check.sentence("RUNS: a throw within a loop leaves it");
        PassiveChecks x = Check.with("w1 1(i=a3(t)()a+a1)b1", 5);
        ends(x, 0, 0, 1, 192);
        ends(x, 0, 0, 0);
        PassiveChecks y = Check.with("y(w1 1(i=a3(t)()a+a1))(b1)", 6);
        ends(y, 0, 0, 0, 208);
        PassiveChecks z = Check.with("w!=a3 1(y(t)(a+a1))", 4);
        ends(z, 0, 0, 0, 192);
        PassiveChecks second = Check.with("y(t)(w!=a3 1(a+a1))", 4);
        ends(second, 0, 0, 0, 192);
    }

    private static void endOfProgram() {
        Check.sentence("RUNS: after the last statement the run ends");
        for (int cut = 0; cut < 2; cut++) {
            from(new PassiveChecks(), cut, 77, NONE, 1, 0);
            from(Check.with("", 0), cut, 77, NONE, 1, 0);
            ends(new PassiveChecks(), cut, 77, 0, 77);
            ends(new PassiveChecks(), cut, 77, 1);
        }
        endsInBoth(Check.with("i1(a1)()", 2), 0, 0, 64);
        endsInBoth(Check.with("i0()(a1)", 2), 0, 0, 64);
    }

    // ---- RUNS, cut runs

    private static void cutEntry() {
        Check.sentence("RUNS: if the invariant is false, the run fails at the first check of the loop");
        PassiveChecks x = Check.with("w0 a(ha)k0", 3);
        wrong(x, 1, 0, 64, 0);
        wrong(x, 1, 2, 192, 64);
        wrong(x, 0, 0, 0, NONE);
        from(x, 1, 0, 0, 0, 0);
        PassiveChecks y = Check.with("w1 0(k0)", 2);
        wrong(y, 1, 0, 256, 0);
        wrong(y, 1, 1, 0, NONE);
        wrong(y, 1, 2, 0, NONE);
    }

    private static void cutHavoc() {
        Check.sentence("RUNS: then all variables that the block modifies get any values");
        ends(Check.with("w0 1()", 1), 1, 77, 0, 77);
        ends(Check.with("w0 1(kasbi1()()y()())", 5), 1, 77, 0, 77);
        ends(Check.with("w0 1(hd)", 2), 1, 77, 0, 76, 77, 78, 79);
        ends(Check.with("w0 1(t a0)", 3), 1, 77, 0, 13, 77, 141, 205);
        ends(Check.with("w0 1(y(i0(p1cc)())())", 4), 1, 0, 0, 0, 4, 8, 12);
        ends(Check.with("w0 1(y()(w0 0(c0)))", 4), 1, 0, 0, 0, 4, 8, 12);
        ends(Check.with("w0 1(ha hc)", 3), 1, 17, 0,
            17, 21, 25, 29, 81, 85, 89, 93, 145, 149, 153, 157, 209, 213, 217, 221);
        for (int set = 0; set < 16; set++) {
            PassiveChecks any = Check.with("w0 1(" + havocs(set) + ")", 1 + Integer.bitCount(set));
            Check.due("ends(1, 0, 0, -1)", any.ends(1, 0, 0, -1), 1 << 2 * Integer.bitCount(set));
            Check.due("ends(1, 255, 0, 0)", any.ends(1, 255, 0, 0), 255 - 3 * spread(set));
        }
        PassiveChecks x = Check.with("w0 1(" + ALL_ANY + ")k!" + LAST, 6);
        wrong(x, 1, 2, 256, 0);
        wrong(x, 0, 2, 1, 255);
    }

    private static String havocs(int set) {
        StringBuilder block = new StringBuilder();
        for (int v = 0; v < 4; v++) {
            if ((set >> v & 1) == 1) {
                block.append('h').append((char) ('a' + v));
            }
        }
        return block.toString();
    }

    /** The state in which the variables of the set are 1. */
    private static int spread(int set) {
        return 64 * (set & 1) + 16 * (set >> 1 & 1) + 4 * (set >> 2 & 1) + (set >> 3 & 1);
    }

    private static void cutBlocked() {
        Check.sentence("RUNS: if the invariant is false then, the run is blocked");
        PassiveChecks x = Check.with("w0 =a2(ha)", 2);
        ends(x, 1, 128, 0, 128);
        ends(x, 1, 64, 0);
        ends(Check.with("w0 a(a0)", 2), 1, 64, 0, 64, 128, 192);
        wrong(Check.with("w0 a(a0)ka", 3), 1, 2, 0, NONE);
    }

    private static void cutAfter() {
        Check.sentence("RUNS: if the first term is false then, the run goes on after the loop");
        ends(Check.with("wa 1(a-a1)b1", 3), 1, 192, 0, 16);
        ends(Check.with("w1 1(ha)", 2), 1, 0, 0);
        ends(Check.with("w<a2 1(ha)", 2), 1, 0, 0, 128, 192);
        from(Check.with("w1 1()k0", 2), 1, 0, NONE, 0, 0);
    }

    private static void cutBlockEnd() {
        Check.sentence("RUNS: at its end the run fails at the second check if the invariant is false, and is blocked if true");
        PassiveChecks x = Check.with("wa a(a-a1)", 2);
        wrong(x, 1, 0, 64, 0);
        wrong(x, 1, 1, 192, 64);
        from(x, 1, 64, 1, 0, 0);
        PassiveChecks y = Check.with("w1 1()", 1);
        wrong(y, 1, 1, 0, NONE);
        from(y, 1, 0, NONE, 0, 0);
        PassiveChecks z = Check.with("w1 a(a0 s0)", 3);
        wrong(z, 1, 1, 0, NONE);
        PassiveChecks empty = Check.with("w1 a()", 1);
        wrong(empty, 1, 1, 0, NONE);
        PassiveChecks inner = Check.with("w1 !a(w0 1(ha))", 3);
        wrong(inner, 1, 1, 64, 0);
        wrong(inner, 1, 3, 0, NONE);
        PassiveChecks four = Check.with("w=a3!=a2(a2)w=b3!=b2(b2)w=c3!=c2(c2)w=d3!=d2(d2)", 8);
        int[] many = {64, 192, 48, 144, 36, 108, 27, 81};
        int[] lowest = {128, 0, 32, 0, 8, 0, 2, 0};
        for (int check = 0; check < 8; check++) {
            wrong(four, 1, check, many[check], lowest[check]);
        }
        PassiveChecks nested = Check.with("w1 1(w1 a(a0))", 3);
        wrong(nested, 1, 1, 0, NONE);
        wrong(nested, 1, 2, 256, 0);
        wrong(nested, 1, 3, 256, 0);
    }

    private static void cutThrow() {
        Check.sentence("RUNS: a throw in the block has its usual effect");
        PassiveChecks x = Check.with("w1 a(ha t)", 3);
        ends(x, 1, 64, 1, 0, 64, 128, 192);
        ends(x, 1, 0, 1);
        wrong(x, 1, 1, 0, NONE);
        PassiveChecks y = Check.with("y(w1 1(t))(ka b1)", 5);
        wrong(y, 1, 2, 64, 0);
        ends(y, 1, 64, 0, 80);
        ends(y, 1, 64, 1);
        PassiveChecks z = Check.with("w1 a(y(t)(a0))", 4);
        wrong(z, 1, 1, 192, 64);
        wrong(z, 0, 1, 0, NONE);
    }

    public static void main(String[] args) {
        wrongRange();
        wrongNone();
        spuriousRange();
        spuriousStates();
        fromRange();
        fromLowest();
        fromFlags();
        endsRange();
        endsIndex();
        endsInAllStates();
        keepsRange();
        keepsAllOrNone();
        keepsFirstTerm();
        keepsRounds();
        keepsOnlyThoseAtTheEnd();
        keepsCutRuns();
        keepsAfterOtherQuestions();
        askedAfterChanges();
        failedRunIsOver();
        blockedRunIsOver();
        assignmentAndHavoc();
        calls();
        endlessLoop();
        circles();
        loopNotEntered();
        invariantOfRuns();
        tries();
        innerTryCatches();
        throwInSecondBlock();
        uncaughtThrow();
        throwInLoop();
        endOfProgram();
        cutEntry();
        cutHavoc();
        cutBlocked();
        cutAfter();
        cutBlockEnd();
        cutThrow();
        Check.finish();
    }
}
