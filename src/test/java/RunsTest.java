/** Promises 7 to 14: the program, and runs and cut runs. */
public final class RunsTest {
    private static final int BAD = -1, NONE = -9;
    private static final int[] BEYOND = {-1, 2, Integer.MIN_VALUE, Integer.MAX_VALUE};

    private static void telling() {
        PassiveChecks x = Check.with(" h b k +a 1", 2);
        int[] signs = {'h', 'b', 'k', '+', 'a', '1'};
        Check.due("told(-1)", x.told(-1), 6);
        for (int i = 0; i < 6; i++) {
            Check.due("told(" + i + ")", x.told(i), signs[i]);
        }
        Check.due("told(6)", x.told(6), NONE);
        Check.due("told(MAX)", x.told(Integer.MAX_VALUE), NONE);
        Check.due("told(-2)", x.told(-2), BAD);
        Check.due("told(MIN)", x.told(Integer.MIN_VALUE), BAD);
    }

    private static void kindsAndLoops() {
        PassiveChecks x = Check.with("kaw1 !b(p1a1ka wd =c3(hd i1(c1)(p1b1) t b1))kb w11()", 13);
        int[] kinds = {0, 1, 2, 3, 0, 1, 2, 3, 0, 1, 2};
        Check.due("count(1)", x.count(1), kinds.length);
        for (int c = 0; c < kinds.length; c++) {
            Check.due("kind(" + c + ")", x.kind(c), kinds[c]);
        }
        Check.due("kind(-1)", x.kind(-1), BAD);
        Check.due("kind(11)", x.kind(11), BAD);
        int[][] loops = {{1, 15, 64}, {5, 14, 64}, {9, 0, 256}};
        for (int l = 0; l < 3; l++) {
            for (int what = 0; what < 3; what++) {
                Check.due("loop(" + l + ", " + what + ")", x.loop(l, what), loops[l][what]);
            }
            Check.due("loop(l, -1)", x.loop(l, -1), BAD);
            Check.due("loop(l, 3)", x.loop(l, 3), BAD);
        }
        Check.due("loop(-1, 0)", x.loop(-1, 0), BAD);
        Check.due("loop(3, 0)", x.loop(3, 0), BAD);
    }

    /** What the terms say, each asked for as the invariant of a loop: in how many states it is true. */
    private static void terms() {
        String[] terms = {"0", "3", "a", "!a", "!!a", "+a1", "-a1", "-0a", "=ab", "<ab", "<ba", "&ab", "|ab", "=+a3 2",
            "=-a3 2", "<a0", "<+3 3 3", "=-1 3 2", "&1 2", "=!2 0", "=|2 3 1", "=&2 3 1", "=<1 2 1", "-ab", "+-ab-ba"};
        int[] states = {0, 256, 192, 64, 192, 192, 192, 192, 64, 96, 96, 144, 240, 64,
            64, 0, 256, 256, 256, 256, 256, 256, 256, 192, 0};
        PassiveChecks x = Check.with("w11()", 1);
        for (int i = 0; i < terms.length; i++) {
            Check.type(x, terms[i]);
            x.invariant(0);
            Check.due("states with " + terms[i], x.loop(0, 2), states[i]);
        }
    }

    private static void wrong(String program, int statements, int cut, int[] many, int[] lowest) {
        PassiveChecks x = Check.with(program, statements);
        Check.due("count(1)", x.count(1), many.length);
        for (int c = 0; c < many.length; c++) {
            Check.due("wrong(" + cut + ", " + c + ", 0)", x.wrong(cut, c, 0), many[c]);
            Check.due("wrong(" + cut + ", " + c + ", 1)", x.wrong(cut, c, 1), lowest[c]);
        }
    }

    private static int[] of(int... numbers) {
        return numbers;
    }

    private static void failing() {
        wrong("ka", 1, 0, of(64), of(0));
        wrong("k=a3", 1, 0, of(192), of(0));
        wrong("k!a kd", 2, 0, of(192, 16), of(64, 0));
        wrong("k!d kc", 2, 1, of(192, 16), of(1, 0));
        wrong("ha ka", 2, 0, of(256), of(0));
        wrong("sa ka", 2, 0, of(0), of(NONE));
        wrong("hb s=b2 k=b2 kb k!b", 5, 0, of(0, 0, 256), of(NONE, NONE, 0));
        wrong("pa b=b2 k=b2 k!b", 3, 0, of(64, 0, 192), of(0, NONE, 64));
        wrong("p1 a0 k0", 2, 0, of(0, 0), of(NONE, NONE));
        wrong("ia(kb)(kc)", 3, 0, of(48, 16), of(64, 0));
        wrong("i=a3(b1)(b2) k=b1", 4, 0, of(192), of(0));
        wrong("t k0", 2, 0, of(0), of(NONE));
        wrong("y(ia(t)())(kb) kc", 5, 0, of(48, 52), of(64, 0));
        wrong("y(k0)(k0)", 3, 0, of(256, 0), of(0, NONE));
        wrong("y(y(t)(k0t))(kb)", 6, 0, of(256, 0), of(0, NONE));
        wrong("y(y(t)(t))(kb)", 5, 0, of(64), of(0));
    }

    private static void failingInLoops() {
        wrong("w<a3 0(a+a1) k=a3 k0", 4, 0, of(0, 0, 0, 256), of(NONE, NONE, NONE, 0));
        wrong("w1 0(a+a1 ka) k0", 4, 0, of(0, 0, 256, 0), of(NONE, NONE, 0, NONE));
        wrong("w!=ab 1(kc a+a1)", 3, 0, of(0, 0, 48), of(NONE, NONE, 16));
        wrong("y(w1 1(i=a3(t)(a+a1)))(k=b2)", 6, 0, of(0, 0, 192), of(NONE, NONE, 0));
        wrong("wa 1(wb 1(b-b1) a-a1) k|ab k!b", 6, 0, of(0, 0, 0, 0, 208, 48), of(NONE, NONE, NONE, NONE, 0, 16));
        wrong("w1 1(ha s=a2 t)", 4, 0, of(0, 0), of(NONE, NONE));
        wrong("w<a3 <a2(a+a1)", 2, 1, of(128, 128), of(128, 0));
        wrong("w1 =a2(hb)k0", 3, 1, of(192, 0, 0), of(0, NONE, NONE));
        wrong("w0 !a(a1)ka k!a", 4, 1, of(192, 0, 64, 0), of(64, NONE, 0, NONE));
        wrong("w1 !a(kb b1 kb a1)", 5, 1, of(192, 64, 64, 0), of(64, 0, 0, NONE));
        wrong("w0 1(hb)kb", 3, 1, of(0, 0, 256), of(NONE, NONE, 0));
        wrong("w0 1(hb)kb", 3, 0, of(0, 0, 64), of(NONE, NONE, 0));
        wrong("w0 1(ib(c1)(y(p1d0)()))ka kb kc kd", 9, 1, of(0, 0, 0, 64, 48, 144, 144), of(NONE, NONE, NONE, 0, 64, 80, 80));
        wrong("y(w1 1(t))(ka)", 4, 1, of(0, 0, 64), of(NONE, NONE, 0));
        wrong("w<a3 1(w<b3 !a(b1) a+a1)k=a3", 5, 1, of(0, 0, 256, 0, 0), of(NONE, NONE, 0, NONE, NONE));
    }

    private static void wrongArguments() {
        PassiveChecks x = Check.with("ka", 1);
        for (int beyond : BEYOND) {
            Check.due("wrong(beyond, 0, 0)", x.wrong(beyond, 0, 0), BAD);
            Check.due("wrong(0, beyond, 0)", x.wrong(0, beyond, 0), BAD);
            Check.due("wrong(0, 0, beyond)", x.wrong(0, 0, beyond), BAD);
            Check.due("spurious(beyond)", x.spurious(beyond), BAD);
            Check.due("from(beyond, 0, 0)", x.from(beyond, 0, 0), BAD);
            Check.due("ends(beyond, 0, 0, 0)", x.ends(beyond, 0, 0, 0), BAD);
            Check.due("ends(0, 0, beyond, 0)", x.ends(0, 0, beyond, 0), BAD);
        }
        Check.due("wrong(0, 1, 0)", x.wrong(0, 1, 0), BAD);
        Check.due("spurious(1)", x.spurious(1), BAD);
        Check.due("from(0, -1, 0)", x.from(0, -1, 0), BAD);
        Check.due("from(0, 256, 0)", x.from(0, 256, 0), BAD);
        Check.due("from(0, 0, -1)", x.from(0, 0, -1), BAD);
        Check.due("from(0, 0, 3)", x.from(0, 0, 3), BAD);
        Check.due("ends(0, -1, 0, 0)", x.ends(0, -1, 0, 0), BAD);
        Check.due("ends(0, 256, 0, 0)", x.ends(0, 256, 0, 0), BAD);
        Check.due("ends(0, 0, 0, -2)", x.ends(0, 0, 0, -2), BAD);
        Check.due("ends(0, 0, 0, MIN)", x.ends(0, 0, 0, Integer.MIN_VALUE), BAD);
        Check.due("ends(0, 64, 0, MAX)", x.ends(0, 64, 0, Integer.MAX_VALUE), NONE);
        Check.due("from(1, 255, 0)", x.from(1, 255, 0), NONE);
    }

    private static void spuriousFailures() {
        PassiveChecks x = Check.with("w<a3 <a2(a+a1)k0", 3);
        Check.due("spurious(0)", x.spurious(0), 128);
        Check.due("spurious(1)", x.spurious(1), 128);
        Check.due("spurious(2)", x.spurious(2), 0);
        x = Check.with("w0 1(hb)kb", 3);
        Check.due("spurious(2)", x.spurious(2), 192);
        x = Check.with("kb w0 a()", 2);
        Check.due("spurious(0)", x.spurious(0), 0);
        Check.due("spurious(1)", x.spurious(1), 48);
        Check.due("spurious(2)", x.spurious(2), 0);
    }

    private static void from(PassiveChecks x, int cut, int state, int lowest, int ends, int thrown) {
        Check.due("from(" + cut + ", " + state + ", 0)", x.from(cut, state, 0), lowest);
        Check.due("from(" + cut + ", " + state + ", 1)", x.from(cut, state, 1), ends);
        Check.due("from(" + cut + ", " + state + ", 2)", x.from(cut, state, 2), thrown);
    }

    private static void happening() {
        PassiveChecks x = Check.with("ha i=a1(kb)(i=a2(t)(kc)) s!=a3", 7);
        from(x, 0, 0, 0, 0, 1);
        from(x, 0, 16, 1, 1, 1);
        from(x, 0, 20, NONE, 1, 1);
        from(x, 1, 4, 0, 1, 1);
        x = Check.with("w1 !a(t)kb", 3);
        from(x, 0, 0, NONE, 0, 1);
        from(x, 0, 64, NONE, 0, 1);
        from(x, 1, 0, NONE, 0, 1);
        from(x, 1, 64, 0, 0, 0);
        x = Check.with("w!b 1()kc t", 3);
        from(x, 0, 0, NONE, 0, 0);
        from(x, 0, 16, 2, 0, 0);
        from(x, 0, 20, NONE, 0, 1);
        from(x, 1, 0, NONE, 0, 0);
        x = Check.with("w!b 1(hb)", 2);
        from(x, 0, 0, NONE, 1, 0);
    }

    private static void ends(PassiveChecks x, int cut, int state, int what, int... states) {
        String call = "ends(" + cut + ", " + state + ", " + what + ", ";
        Check.due(call + "-1)", x.ends(cut, state, what, -1), states.length);
        for (int k = 0; k < states.length; k++) {
            Check.due(call + k + ")", x.ends(cut, state, what, k), states[k]);
        }
        Check.due(call + states.length + ")", x.ends(cut, state, what, states.length), NONE);
    }

    private static void ending() {
        PassiveChecks x = Check.with("hb s<b3 ib(c+cb)(t)", 5);
        ends(x, 0, 0, 0, 20, 40);
        ends(x, 0, 0, 1, 0);
        ends(x, 1, 255, 0, 211, 231);
        ends(x, 1, 255, 1, 207);
        x = Check.with("pa b!=b1 d=bc", 2);
        ends(x, 0, 0, 0);
        ends(x, 0, 66, 0, 65, 96, 112);
        x = Check.with("w<a2 <a3(a+a1 ib(t)())", 4);
        ends(x, 0, 0, 0, 128);
        ends(x, 0, 0, 1);
        ends(x, 0, 16, 1, 80);
        ends(x, 0, 192, 0, 192);
        ends(x, 1, 0, 0, 128);
        ends(x, 1, 16, 0, 144);
        ends(x, 1, 16, 1, 80, 144);
        ends(x, 1, 192, 0);
        x = Check.with("w<d2 1(hd)y(s=d3 t)(c=d3)", 6);
        ends(x, 0, 0, 0, 7);
        ends(x, 0, 2, 0);
        ends(x, 1, 2, 0, 7);
        x = Check.with("w!=d3 1(w!=c1 1(c+c1)c2 d+d1)", 5);
        ends(x, 0, 64, 0, 75);
        ends(x, 0, 67, 0, 67);
        ends(x, 1, 64, 0, 67, 71, 75, 79);
        x = Check.with("ha hb hc hd", 4);
        Check.due("ends(0, 9, 0, -1)", x.ends(0, 9, 0, -1), 256);
        Check.due("ends(0, 9, 0, 255)", x.ends(0, 9, 0, 255), 255);
        Check.due("ends(0, 9, 0, 256)", x.ends(0, 9, 0, 256), NONE);
        x = Check.with("y(y(a1 t)(b1 t) c1)(d1)", 8);
        ends(x, 0, 0, 0, 81);
        ends(x, 0, 0, 1);
        x = Check.with("y(a1)(t) t b1", 5);
        ends(x, 0, 0, 1, 64);
        x = Check.with("y(t)(a2 t) b1", 5);
        ends(x, 0, 0, 1, 128);
    }

    private static void keeps(String program, int statements, int l, int states, int rounds) {
        PassiveChecks x = Check.with(program, statements);
        Check.due("keeps(" + l + ", 0)", x.keeps(l, 0), states);
        Check.due("keeps(" + l + ", 1)", x.keeps(l, 1), rounds);
    }

    private static void keeping() {
        keeps("w1 <a3(a+a1)", 2, 0, 0, 3);
        keeps("w<a2 <a3(a+a1)", 2, 0, 192, 0);
        keeps("w<a3 <a3(a+a1)", 2, 0, 0, 3);
        keeps("w!=a1 <a3(a+a1)", 2, 0, 128, 1);
        keeps("w1 !a()", 1, 0, 64, 0);
        keeps("w1 0(ha)", 2, 0, 0, 0);
        keeps("w1 !a(ha)", 2, 0, 0, 1);
        keeps("w1 !a(t)", 2, 0, 64, 0);
        keeps("w1 !a(a1 t)", 3, 0, 64, 0);
        keeps("y(w1 !a(ib(t)()a1))(a1)", 6, 0, 48, 1);
        keeps("w1 !a(y(t)(a1))", 4, 0, 0, 1);
        keeps("w1 !a(k0 a1)", 3, 0, 64, 0);
        keeps("w1 !a(kb a1)", 3, 0, 16, 1);
        keeps("w1 !a(s0 a1)", 3, 0, 64, 0);
        keeps("w1 !a(w0 1(ha))", 3, 0, 0, 1);
        keeps("w1 !a(w0 b(ha))", 3, 0, 16, 1);
        keeps("w1 !a(w0 b(ha))", 3, 1, 192, 0);
        keeps("w1 !a(w1 1(ha))", 3, 0, 64, 0);
        keeps("w1 !a(w1 !b(b+b1 i=b1(t)()))", 5, 1, 64, 0);
        keeps("w1 1(y(w1 !b(ib(t)(b1)))(a1))", 7, 1, 0, 1);
        keeps("a3 w1 !=a0(p1 a<a3)", 3, 0, 0, 1);
        keeps("w!&&=a3=b3&=c3=d3 !&&=a3=b3&=c3=d3(d+d1id()(c+c1ic()(b+b1ib()(a+a1))))", 8, 0, 0, 255);
        PassiveChecks x = Check.with("w11()", 1);
        for (int beyond : BEYOND) {
            Check.due("keeps(beyond, 0)", x.keeps(beyond, 0), BAD);
            Check.due("keeps(0, beyond)", x.keeps(0, beyond), BAD);
        }
        Check.due("keeps(1, 0)", x.keeps(1, 0), BAD);
    }

    public static void main(String[] args) {
        telling();
        kindsAndLoops();
        terms();
        failing();
        failingInLoops();
        wrongArguments();
        spuriousFailures();
        happening();
        ending();
        keeping();
        Check.finish();
    }
}
