/** The boundary cases of promises 7 to 9, and of STATES and PROGRAMS: a method for each sentence, which it names. */
public final class ProgramEdgesTest {
    private static final int BAD = -1, NONE = -9;
    private static final int LOW = Integer.MIN_VALUE, HIGH = Integer.MAX_VALUE;

    // ---- promise 7

    private static void toldCount() {
        Check.sentence("promise 7: -1 for the number of its characters");
        Check.due("told(-1) of a new object", new PassiveChecks().told(-1), 0);
        Check.due("told(-1)", Check.with("t", 1).told(-1), 1);
        Check.due("told(-1)", Check.with("  h  c  ", 1).told(-1), 2);
        Check.due("told(-1)", Check.with("t".repeat(120), 120).told(-1), 120);
        Check.due("told(-1)", Check.with(" ".repeat(120), 0).told(-1), 0);
    }

    private static void toldSigns() {
        Check.sentence("promise 7: the index of a character, from 0; NONE if there is no such character");
        Check.due("told(0) of a new object", new PassiveChecks().told(0), NONE);
        PassiveChecks x = Check.with(" h  c d3 ", 2);
        Check.due("told(0)", x.told(0), 'h');
        Check.due("told(1)", x.told(1), 'c');
        Check.due("told(3)", x.told(3), '3');
        Check.due("told(4)", x.told(4), NONE);
        Check.due("told(5)", x.told(5), NONE);
        Check.due("told(MAX)", x.told(HIGH), NONE);
        PassiveChecks y = Check.with("t".repeat(119) + "t", 120);
        Check.due("told(119)", y.told(119), 't');
        Check.due("told(120)", y.told(120), NONE);
        Check.change(y, "hb", 1);
        Check.due("told(1)", y.told(1), 'b');
        Check.due("told(2), which was one", y.told(2), NONE);
        Check.due("undo()", y.undo(), 1);
        Check.due("told(2), which is one again", y.told(2), 't');
    }

    private static void toldBelow() {
        Check.sentence("promise 7: BAD if k is below -1");
        for (PassiveChecks x : new PassiveChecks[] {new PassiveChecks(), Check.with("t", 1)}) {
            Check.due("told(-2)", x.told(-2), BAD);
            Check.due("told(-3)", x.told(-3), BAD);
            Check.due("told(MIN)", x.told(LOW), BAD);
        }
    }

    private static void toldLong() {
        Check.sentence("promise 7: the text of a program that its invariants make longer than 120 characters");
        PassiveChecks x = Check.with("w00()".repeat(4) + "t".repeat(100), 104);
        Check.invariant(x, 0, "!".repeat(119) + "1", 120);
        Check.due("told(-1)", x.told(-1), 239);
        Check.due("told(1)", x.told(1), '0');
        Check.due("told(2)", x.told(2), '!');
        Check.due("told(121)", x.told(121), '1');
        Check.due("told(122)", x.told(122), '(');
        Check.due("told(238)", x.told(238), 't');
        Check.due("told(239)", x.told(239), NONE);
        Check.invariant(x, 3, "+".repeat(59) + "1".repeat(60), 119);
        Check.due("told(-1)", x.told(-1), 357);
        Check.due("told(356)", x.told(356), 't');
        Check.due("told(357)", x.told(357), NONE);
        Check.invariant(x, 0, "d", 1);
        Check.due("told(-1)", x.told(-1), 238);
        Check.due("told(238)", x.told(238), NONE);
    }

    // ---- promise 8

    private static void kinds(String program, int statements, int... kinds) {
        PassiveChecks x = Check.with(program, statements);
        Check.due("count(1)", x.count(1), kinds.length);
        for (int check = 0; check < kinds.length; check++) {
            Check.due("kind(" + check + ")", x.kind(check), kinds[check]);
        }
        for (int check : new int[] {-1, kinds.length, kinds.length + 1, 16, LOW, HIGH}) {
            Check.due("kind(" + check + ")", x.kind(check), BAD);
        }
    }

    private static void kindRange() {
        Check.sentence("promise 8: BAD if there is no such check");
        kinds("", 0);
        kinds("t a1 ha s1 i1()() y()()", 6);
        kinds("k1", 1, 0);
        kinds("p1a1", 1, 3);
        kinds("w11()", 1, 1, 2);
        kinds("k1".repeat(15) + "p1a1", 16, 0, 0, 0, 0, 0, 0, 0, 0, 0, 0, 0, 0, 0, 0, 0, 3);
        kinds("k1".repeat(14) + "w11()", 15, 0, 0, 0, 0, 0, 0, 0, 0, 0, 0, 0, 0, 0, 0, 1, 2);
        kinds("w11()w11()w11()w11()" + "k1".repeat(8), 12, 1, 2, 1, 2, 1, 2, 1, 2, 0, 0, 0, 0, 0, 0, 0, 0);
    }

    private static void checksInTextOrder() {
        Check.sentence("PROGRAMS: numbered in the order in which their letters stand; a loop has two at its letter w");
        kinds("w11(k1w11(p1a1))k1", 5, 1, 2, 0, 1, 2, 3, 0);
        kinds("i1(p1a1)(k1) y(k1)(p1a1)", 6, 3, 0, 0, 3);
    }

    // ---- promise 9

    private static void loopRange() {
        Check.sentence("promise 9: BAD if there is no such loop");
        Check.due("loop(0, 0) of a new object", new PassiveChecks().loop(0, 0), BAD);
        Check.due("loop(0, 1) without loops", Check.with("k1", 1).loop(0, 1), BAD);
        PassiveChecks x = Check.with("w11()w11()w11()w11()", 4);
        Check.due("loop(0, 0)", x.loop(0, 0), 0);
        Check.due("loop(3, 0)", x.loop(3, 0), 6);
        PassiveChecks one = Check.with("w11()", 1);
        for (int what = 0; what < 3; what++) {
            for (int l : new int[] {-1, 4, 5, LOW, HIGH}) {
                Check.due("loop(" + l + ", " + what + ")", x.loop(l, what), BAD);
            }
            Check.due("loop(1, " + what + ")", one.loop(1, what), BAD);
        }
    }

    private static void loopWhat() {
        Check.sentence("promise 9: BAD if what is not 0 to 2");
        PassiveChecks x = Check.with("w1a(hb)", 2);
        Check.due("loop(0, 0)", x.loop(0, 0), 0);
        Check.due("loop(0, 2)", x.loop(0, 2), 192);
        for (int what : new int[] {-1, 3, 4, LOW, HIGH}) {
            Check.due("loop(0, " + what + ")", x.loop(0, what), BAD);
            Check.due("loop(1, " + what + ")", x.loop(1, what), BAD);
        }
    }

    private static void loopFirstCheck() {
        Check.sentence("promise 9: the number of its first check");
        PassiveChecks x = Check.with("k1".repeat(14) + "w11()", 15);
        Check.due("loop(0, 0)", x.loop(0, 0), 14);
        PassiveChecks y = Check.with("w11(p1a1w11(k1))w11()", 5);
        Check.due("loop(0, 0)", y.loop(0, 0), 0);
        Check.due("loop(1, 0)", y.loop(1, 0), 3);
        Check.due("loop(2, 0)", y.loop(2, 0), 6);
    }

    private static void modified(String block, int set) {
        PassiveChecks x = new PassiveChecks();
        String text = "a1w11(" + block + ")b1";
        Check.in(text);
        Check.type(x, text);
        Check.due("program() is read", x.program() > 0 ? 1 : 0, 1);
        Check.due("loop(0, 1)", x.loop(0, 1), set);
    }

    private static void loopModified() {
        Check.sentence("promise 9: the set of the variables that its block modifies");
        modified("", 0);
        modified("kas=bcwd!a()i+ab()(t)", 0);
        modified("a1", 1);
        modified("hb", 2);
        modified("pdcd", 4);
        modified("d=ab", 8);
        modified("hahbhchd", 15);
        modified("hdhd", 8);
        modified("i1()(a1)", 1);
        modified("i1(a1)()", 1);
        modified("y()(hb)", 2);
        modified("y(hb)()", 2);
        modified("w11(pccc)", 4);
        modified("y(i1(w11(y()(d1)))())()", 8);
        modified("t a1", 1);
        PassiveChecks x = Check.with("w11(a1w11(b1)c1)", 5);
        Check.due("loop(0, 1)", x.loop(0, 1), 7);
        Check.due("loop(1, 1)", x.loop(1, 1), 2);
    }

    private static void loopInvariantStates() {
        Check.sentence("promise 9: in how many states its invariant is true");
        Check.due("loop(0, 2)", Check.with("w10()", 1).loop(0, 2), 0);
        Check.due("loop(0, 2)", Check.with("w01()", 1).loop(0, 2), 256);
        Check.due("loop(0, 2)", Check.with("w03(t)", 2).loop(0, 2), 256);
        Check.due("loop(0, 2)", Check.with("w1&&=a3=b3&=c3=d3()", 1).loop(0, 2), 1);
        Check.due("loop(0, 2)", Check.with("w1||a|bcd()", 1).loop(0, 2), 255);
    }

    // ---- STATES

    private static void stateNumbers() {
        Check.sentence("STATES: its number is 64 * a + 16 * b + 4 * c + d, 0 to 255");
        PassiveChecks x = new PassiveChecks();
        for (int state = 0; state < 256; state++) {
            Check.due("ends(0, " + state + ", 0, 0)", x.ends(0, state, 0, 0), state);
        }
        int[] weights = {64, 16, 4, 1};
        for (int v = 0; v < 4; v++) {
            for (int value = 0; value < 4; value++) {
                PassiveChecks set = Check.with((char) ('a' + v) + "" + value, 1);
                Check.due("ends(0, 0, 0, 0)", set.ends(0, 0, 0, 0), weights[v] * value);
                Check.due("ends(0, 255, 0, 0)", set.ends(0, 255, 0, 0), 255 - weights[v] * (3 - value));
                PassiveChecks test = Check.with("k!=" + (char) ('a' + v) + value, 1);
                Check.due("wrong(0, 0, 0)", test.wrong(0, 0, 0), 64);
                Check.due("wrong(0, 0, 1)", test.wrong(0, 0, 1), weights[v] * value);
            }
        }
    }

    private static void stateRange() {
        Check.sentence("STATES: a state below 0 or above 255");
        PassiveChecks x = Check.with("k0", 1);
        for (int cut = 0; cut < 2; cut++) {
            Check.due("from(cut, 0, 0)", x.from(cut, 0, 0), 0);
            Check.due("from(cut, 255, 0)", x.from(cut, 255, 0), 0);
            Check.due("ends(cut, 0, 0, -1)", x.ends(cut, 0, 0, -1), 0);
            Check.due("ends(cut, 255, 1, -1)", x.ends(cut, 255, 1, -1), 0);
            for (int state : new int[] {-1, 256, -256, LOW, HIGH}) {
                Check.due("from(cut, " + state + ", 0)", x.from(cut, state, 0), BAD);
                Check.due("ends(cut, " + state + ", 0, -1)", x.ends(cut, state, 0, -1), BAD);
            }
        }
    }

    // ---- PROGRAMS

    private static int modulo(int number) {
        return (number + 4) % 4;
    }

    private static int bit(boolean truth) {
        return truth ? 1 : 0;
    }

    private static int result(char sign, int one, int two) {
        switch (sign) {
            case '+':
                return modulo(one + two);
            case '-':
                return modulo(one - two);
            case '=':
                return bit(one == two);
            case '<':
                return bit(one < two);
            case '&':
                return bit(one != 0 && two != 0);
            default:
                return bit(one != 0 || two != 0);
        }
    }

    /** Each sign with each pair of values, of variables and of digits. */
    private static void termValues() {
        Check.sentence("PROGRAMS: + and - are computed modulo 4; =, <, & and | are 1 or 0");
        for (char sign : "+-=<&|".toCharArray()) {
            PassiveChecks x = Check.with("d" + sign + "ab", 1);
            for (int one = 0; one < 4; one++) {
                for (int two = 0; two < 4; two++) {
                    int begin = 64 * one + 16 * two + 3;
                    int due = 64 * one + 16 * two + result(sign, one, two);
                    Check.due("ends(0, " + begin + ", 0, 0)", x.ends(0, begin, 0, 0), due);
                    PassiveChecks y = Check.with("d" + sign + one + two, 1);
                    Check.due("ends(0, 3, 0, 0)", y.ends(0, 3, 0, 0), result(sign, one, two));
                }
            }
        }
    }

    private static void notValues() {
        Check.sentence("PROGRAMS: ! is 1 if the value is 0, else 0");
        PassiveChecks x = Check.with("d!a", 1);
        PassiveChecks twice = Check.with("d!!a", 1);
        for (int value = 0; value < 4; value++) {
            int begin = 64 * value;
            Check.due("ends(0, " + begin + ", 0, 0)", x.ends(0, begin, 0, 0), begin + bit(value == 0));
            Check.due("ends(0, " + begin + ", 0, 0)", twice.ends(0, begin, 0, 0), begin + bit(value != 0));
        }
    }

    private static void termsInTerms() {
        Check.sentence("PROGRAMS: E = + E E and its like, operands in their order");
        String[] terms = {"--321", "-3-21", "<!0+33", "<+33!0", "=<12 1", "+=11=22", "-0<02", "&|00|01", "!+-012"};
        int[] values = {0, 2, 1, 0, 1, 2, 3, 0, 0};
        for (int i = 0; i < terms.length; i++) {
            PassiveChecks x = Check.with("d" + terms[i], 1);
            Check.due("ends(0, 0, 0, 0)", x.ends(0, 0, 0, 0), values[i]);
        }
    }

    private static void trueTerms() {
        Check.sentence("PROGRAMS: a term is true in a state if its value is not 0");
        for (int value = 0; value < 4; value++) {
            int truth = bit(value > 0);
            Check.due("k", Check.with("k" + value, 1).from(0, 0, 1), truth);
            Check.due("s", Check.with("s" + value, 1).from(0, 0, 1), truth);
            Check.due("i", Check.with("i" + value + "(t)()", 2).from(0, 0, 2), truth);
            Check.due("p, first", Check.with("p" + value + "a1", 1).from(0, 0, 1), truth);
            Check.due("p, second", Check.with("p1a" + value, 1).from(0, 0, 1), truth);
            Check.due("w, first", Check.with("w" + value + "0()", 1).from(0, 0, 1), 1 - truth);
            Check.due("w, first, cut", Check.with("w" + value + "1()", 1).from(1, 0, 1), 1 - truth);
            Check.due("w, second, cut", Check.with("w0" + value + "()", 1).from(1, 0, 1), truth);
        }
    }

    private static void sixteenChecks() {
        Check.sentence("PROGRAMS: there are at most 16 checks");
        StringBuilder text = new StringBuilder("ha");
        for (int check = 0; check < 16; check++) {
            text.append("k=a").append(check % 4);
        }
        PassiveChecks x = Check.with(text.toString(), 17);
        Check.due("count(1)", x.count(1), 16);
        Check.due("kind(15)", x.kind(15), 0);
        Check.due("wrong(0, 0, 0)", x.wrong(0, 0, 0), 256);
        Check.due("wrong(0, 1, 0)", x.wrong(0, 1, 0), 256);
        Check.due("wrong(0, 2, 0)", x.wrong(0, 2, 0), 0);
        Check.due("wrong(0, 15, 0)", x.wrong(0, 15, 0), 0);
        Check.due("wrong(0, 16, 0)", x.wrong(0, 16, 0), BAD);
        Check.change(x, "k1".repeat(15) + "ka", 16);
        Check.due("wrong(1, 15, 0)", x.wrong(1, 15, 0), 64);
        Check.due("from(0, 0, 0)", x.from(0, 0, 0), 15);
        Check.change(x, "k1".repeat(17), -10 - 32);
        Check.due("count(1)", x.count(1), 16);
    }

    private static void fourLoops() {
        Check.sentence("PROGRAMS: there are at most four loops, and none is within more than one other");
        PassiveChecks x = Check.with("w0a(w0b())w0c()w0d(hd)", 5);
        Check.due("count(2)", x.count(2), 4);
        for (int l = 0; l < 4; l++) {
            Check.due("loop(" + l + ", 0)", x.loop(l, 0), 2 * l);
            Check.due("loop(" + l + ", 2)", x.loop(l, 2), 192);
            Check.due("keeps(" + l + ", 0)", x.keeps(l, 0), 192);
        }
        Check.due("wrong(1, 0, 0)", x.wrong(1, 0, 0), 64);
        Check.due("wrong(1, 2, 0)", x.wrong(1, 2, 0), 0);
        Check.due("wrong(1, 4, 0)", x.wrong(1, 4, 0), 48);
        Check.due("wrong(1, 6, 0)", x.wrong(1, 6, 0), 36);
        PassiveChecks y = Check.with("w10(w10()w10()w10())", 4);
        Check.due("count(2)", y.count(2), 4);
        Check.due("loop(3, 0)", y.loop(3, 0), 6);
    }

    private static void emptyBlocks() {
        Check.sentence("PROGRAMS: B = ( {statement} ), with none too");
        PassiveChecks x = Check.with("ia()()y()()wa1()", 3);
        for (int cut = 0; cut < 2; cut++) {
            Check.due("ends(cut, 63, 0, -1)", x.ends(cut, 63, 0, -1), 1);
            Check.due("ends(cut, 63, 0, 0)", x.ends(cut, 63, 0, 0), 63);
            Check.due("from(cut, 64, 0)", x.from(cut, 64, 0), NONE);
            Check.due("from(cut, 64, 1)", x.from(cut, 64, 1), 0);
            Check.due("from(cut, 64, 2)", x.from(cut, 64, 2), 0);
        }
        PassiveChecks y = Check.with("ia()(b1)", 2);
        Check.due("ends(0, 64, 0, 0)", y.ends(0, 64, 0, 0), 64);
        Check.due("ends(0, 0, 0, 0)", y.ends(0, 0, 0, 0), 16);
        PassiveChecks z = Check.with("ia(b1)()", 2);
        Check.due("ends(0, 64, 0, 0)", z.ends(0, 64, 0, 0), 80);
        Check.due("ends(0, 0, 0, 0)", z.ends(0, 0, 0, 0), 0);
        PassiveChecks caught = Check.with("y(a2t)()", 3);
        Check.due("ends(0, 1, 0, 0)", caught.ends(0, 1, 0, 0), 129);
        Check.due("from(0, 1, 2)", caught.from(0, 1, 2), 0);
    }

    private static void deepBlocks() {
        Check.sentence("PROGRAMS: blocks in blocks, as deep as 120 characters allow");
        PassiveChecks x = Check.with("y(".repeat(23) + "t" + ")()".repeat(23), 24);
        Check.due("from(0, 7, 1)", x.from(0, 7, 1), 1);
        Check.due("from(1, 7, 2)", x.from(1, 7, 2), 0);
        Check.due("linear()", x.linear(), 24);
        Check.due("copied()", x.copied(), 1);
        PassiveChecks y = Check.with("i0()(".repeat(19) + "c2t" + ")".repeat(19), 21);
        Check.due("ends(0, 0, 1, 0)", y.ends(0, 0, 1, 0), 8);
        Check.due("from(0, 0, 1)", y.from(0, 0, 1), 0);
        Check.due("linear()", y.linear(), 41);
        PassiveChecks z = Check.with("y()(".repeat(24) + ")".repeat(24), 24);
        Check.due("linear()", z.linear(), 1);
    }

    public static void main(String[] args) {
        toldCount();
        toldSigns();
        toldBelow();
        toldLong();
        kindRange();
        checksInTextOrder();
        loopRange();
        loopWhat();
        loopFirstCheck();
        loopModified();
        loopInvariantStates();
        stateNumbers();
        stateRange();
        termValues();
        notValues();
        termsInTerms();
        trueTerms();
        sixteenChecks();
        fourLoops();
        emptyBlocks();
        deepBlocks();
        Check.finish();
    }
}
