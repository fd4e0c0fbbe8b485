/** Promises 1 to 6: a new object, and texts and changes. */
public final class TextsTest {
    private static final int BAD = -1, STATE = -2, FULL = -3, NONE = -9;

    private static void newObject() {
        Check.in("a new object");
        PassiveChecks x = new PassiveChecks();
        for (int what = 0; what <= 5; what++) {
            Check.due("count(" + what + ")", x.count(what), 0);
        }
        Check.due("told(-1)", x.told(-1), 0);
        Check.due("told(0)", x.told(0), NONE);
        Check.due("kind(0)", x.kind(0), BAD);
        Check.due("loop(0, 0)", x.loop(0, 0), BAD);
        Check.due("undo()", x.undo(), STATE);
        Check.due("back(0)", x.back(0), STATE);
        Check.due("back(1)", x.back(1), STATE);
        Check.due("starts(0)", x.starts(0), 256);
        Check.due("starts(1)", x.starts(1), 0);
        Check.due("ask()", x.ask(), 0);
        Check.due("from(0, 7, 0)", x.from(0, 7, 0), NONE);
        Check.due("from(1, 7, 1)", x.from(1, 7, 1), 1);
        Check.due("from(0, 7, 2)", x.from(0, 7, 2), 0);
        Check.due("ends(0, 7, 0, -1)", x.ends(0, 7, 0, -1), 1);
        Check.due("ends(1, 7, 0, 0)", x.ends(1, 7, 0, 0), 7);
        Check.due("ends(0, 7, 1, -1)", x.ends(0, 7, 1, -1), 0);
        Check.due("versions(0)", x.versions(0), 0);
        Check.due("equalities()", x.equalities(), 0);
        Check.due("linear()", x.linear(), 0);
        Check.due("copied()", x.copied(), 1);
        Check.due("forget()", x.forget(), 0);
        Check.due("clear()", x.clear(), 0);
    }

    private static void objectsAreApart() {
        PassiveChecks x = Check.with("ka", 1);
        PassiveChecks y = new PassiveChecks();
        Check.type(x, "kb");
        Check.due("count(4) of another", y.count(4), 0);
        Check.due("count(0) of another", y.count(0), 0);
        Check.due("wrong(0, 0, 0)", x.wrong(0, 0, 0), 64);
    }

    private static void typing() {
        Check.in("typing");
        PassiveChecks x = new PassiveChecks();
        Check.due("type(-1)", x.type(-1), BAD);
        Check.due("type(256)", x.type(256), BAD);
        Check.due("type(MIN)", x.type(Integer.MIN_VALUE), BAD);
        Check.due("type(MAX)", x.type(Integer.MAX_VALUE), BAD);
        Check.due("type(0)", x.type(0), 1);
        Check.due("type(255)", x.type(255), 2);
        for (int n = 3; n <= 120; n++) {
            Check.due("type(32)", x.type(32), n);
        }
        Check.due("type(32)", x.type(32), FULL);
        Check.due("type(256)", x.type(256), BAD);
        Check.due("count(4)", x.count(4), 120);
        Check.due("program()", x.program(), -10);
        Check.due("clear()", x.clear(), 120);
        Check.due("clear()", x.clear(), 0);
        Check.due("type(97)", x.type(97), 1);
    }

    private static void error(String text, int position) {
        Check.in("error in " + text);
        PassiveChecks x = Check.with("ha", 1);
        Check.type(x, text);
        Check.due("program()", x.program(), -10 - position);
        Check.due("count(4)", x.count(4), text.length());
        Check.due("count(0)", x.count(0), 1);
        Check.due("count(5)", x.count(5), 1);
        Check.due("told(1)", x.told(1), 'a');
    }

    private static void errorsOfPrograms() {
        error("e1", 0);
        error(")", 0);
        error("(", 0);
        error("0", 0);
        error("  a", 3);
        error("a  ", 3);
        error("a1)", 2);
        error("a4", 1);
        error("a\t1", 1);
        error("A1", 0);
        error("a+1", 3);
        error("a=!", 3);
        error("h", 1);
        error("h1", 1);
        error("h e", 2);
        error("ha1", 2);
        error("ka!w", 2);
        error("s)", 1);
        error("p", 1);
        error("p1", 2);
        error("p12", 2);
        error("p1a", 3);
        error("p1at", 3);
        error("i", 1);
        error("i1", 2);
        error("i1a", 2);
        error("i1(", 3);
        error("i1()", 4);
        error("i1()a1", 4);
        error("i1()(", 5);
        error("i1(a)()", 4);
        error("w1", 2);
        error("w1()", 2);
        error("w1 1", 4);
        error("w1 1a", 4);
        error("w11(", 4);
        error("w11()()", 5);
        error("y", 1);
        error("y1", 1);
        error("y()", 3);
        error("y()()t)", 6);
        error("y(y(y(", 6);
        error("k" + (char) 255, 1);
        error("k" + (char) 0, 1);
    }

    private static void limitsOfPrograms() {
        String fifteen = "k1".repeat(15);
        error(fifteen + "k1k1", 32);
        error(fifteen + "k1 p1a1", 33);
        error(fifteen + "w11()", 30);
        error(fifteen + "k1w11()", 32);
        Check.due("kind(15)", Check.with(fifteen + "p1a1", 16).kind(15), 3);
        Check.due("kind(15)", Check.with("k1".repeat(14) + "w11()", 15).kind(15), 2);
        String four = "w11()".repeat(4);
        Check.due("count(2)", Check.with(four, 4).count(2), 4);
        error(four + "w11()", 20);
        error("w11(w11(w11()))", 8);
        error("w11(i1(w11(y()(w11())))())", 15);
        Check.due("count(2)", Check.with("w11(w11()w11())w11()", 4).count(2), 4);
        error("w11(w11()w11())w11(w11())", 19);
        Check.due("count(0)", Check.with("t".repeat(120), 120).count(0), 120);
        Check.due("count(0)", Check.with("y(".repeat(24) + ")()".repeat(24), 24).count(0), 24);
        Check.due("count(0)", Check.with("k" + "!".repeat(118) + "a", 1).count(0), 1);
    }

    private static void programs() {
        PassiveChecks x = Check.with("", 0);
        Check.due("count(5)", x.count(5), 1);
        Check.change(x, "   ", 0);
        Check.due("told(-1)", x.told(-1), 0);
        Check.change(x, " a + a 1 h b k c s d t p 1 a 2 ", 6);
        Check.due("count(4)", x.count(4), 0);
        Check.due("told(-1)", x.told(-1), 15);
        Check.change(x, "i0(a1 i1(t)())(b1)y(ha)(hb hc) w1 1 (w0 0 () )", 11);
        Check.due("count(5)", x.count(5), 4);
        Check.due("sees(16, 1)", x.sees(16, 1), 1);
        Check.due("keep(0)", x.keep(0), 11);
        Check.change(x, "ha", 1);
        Check.due("count(3)", x.count(3), 1);
        Check.due("back(0)", x.back(0), 11);
    }

    /** What was read before must not show in what is read next. */
    private static void readingAgain() {
        PassiveChecks x = new PassiveChecks();
        Check.change(x, "w11(w11(", -18);
        x.clear();
        Check.change(x, "w11(w11())", 2);
        Check.change(x, "y(y(", -14);
        x.clear();
        Check.change(x, "t", 1);
        Check.change(x, "t)", -11);
        x.clear();
        Check.change(x, "w1 1(ha)", 2);
        Check.due("loop(0, 1)", x.loop(0, 1), 1);
        Check.change(x, "w!a 1()", 1);
        Check.due("loop(0, 1)", x.loop(0, 1), 0);
        Check.due("ends(1, 64, 0, -1)", x.ends(1, 64, 0, -1), 1);
        for (int n = 0; n < 24; n++) {
            Check.change(x, "w0a()pbc1", 2);
            Check.type(x, "d");
            Check.due("invariant(0)", x.invariant(0), 1);
        }
        Check.due("loop(0, 2)", x.loop(0, 2), 192);
        Check.due("wrong(0, 2, 1)", x.wrong(0, 2, 1), 0);
        Check.due("wrong(0, 2, 0)", x.wrong(0, 2, 0), 64);
    }

    private static void term(PassiveChecks x, String text, int answer) {
        Check.type(x, text);
        Check.due("invariant(0) of " + text, x.invariant(0), answer);
        Check.due("count(4)", x.count(4), answer < 0 ? text.length() : 0);
        x.clear();
    }

    private static void invariants() {
        PassiveChecks x = Check.with("a0 w1 =a0(b1) w0 !0()", 4);
        Check.due("invariant(-1)", x.invariant(-1), BAD);
        Check.due("invariant(2)", x.invariant(2), BAD);
        term(x, "", -10);
        term(x, "  ", -12);
        term(x, "+a", -12);
        term(x, "+ae", -12);
        term(x, "a b", -12);
        term(x, "a)", -11);
        term(x, "(a)", -10);
        Check.due("count(5)", x.count(5), 1);
        Check.due("told(-1)", x.told(-1), 17);
        Check.type(x, " & a  =b 2 ");
        Check.due("invariant(0)", x.invariant(0), 5);
        Check.due("told(-1)", x.told(-1), 19);
        String expected = "a0w1&a=b2(b1)w0!0()";
        for (int i = 0; i < expected.length(); i++) {
            Check.due("told(" + i + ")", x.told(i), expected.charAt(i));
        }
        Check.due("count(5)", x.count(5), 2);
        Check.due("loop(0, 2)", x.loop(0, 2), 48);
        Check.type(x, "d");
        Check.due("invariant(1)", x.invariant(1), 1);
        Check.due("told(15)", x.told(15), 'd');
        Check.due("told(-1)", x.told(-1), 18);
        Check.due("loop(1, 2)", x.loop(1, 2), 192);
        Check.due("loop(0, 2)", x.loop(0, 2), 48);
        Check.due("undo()", x.undo(), 2);
        Check.due("loop(1, 2)", x.loop(1, 2), 256);
        Check.due("undo()", x.undo(), 1);
        Check.due("loop(0, 2)", x.loop(0, 2), 64);
        PassiveChecks none = Check.with("a1", 1);
        Check.type(none, "");
        Check.due("invariant(0)", none.invariant(0), BAD);
    }

    /** A program may become longer than a text by its invariants. */
    private static void longInvariants() {
        PassiveChecks x = Check.with("w0 0()".repeat(4) + "t".repeat(96), 100);
        for (int l = 0; l < 4; l++) {
            Check.type(x, "!".repeat(119) + "a");
            Check.due("invariant(" + l + ")", x.invariant(l), 120);
            Check.due("loop(" + l + ", 2)", x.loop(l, 2), 64);
        }
        Check.due("told(-1)", x.told(-1), 116 + 476);
        Check.due("told(591)", x.told(591), 't');
        Check.due("told(592)", x.told(592), NONE);
        Check.due("count(0)", x.count(0), 100);
        Check.due("linear()", x.linear(), 4 * 362 + 1);
        Check.due("keep(0)", x.keep(0), 100);
        Check.due("undo()", x.undo(), 4);
        Check.due("told(-1)", x.told(-1), 116 + 357);
        Check.due("back(0)", x.back(0), 100);
        Check.due("told(-1)", x.told(-1), 116 + 476);
    }

    private static void undoing() {
        Check.in("undoing");
        PassiveChecks x = new PassiveChecks();
        Check.due("undo()", x.undo(), STATE);
        for (int n = 1; n <= 9; n++) {
            Check.change(x, "t".repeat(n), n);
            Check.due("count(5)", x.count(5), Math.min(n, 6));
        }
        for (int n = 5; n >= 3; n--) {
            Check.due("undo()", x.undo(), n);
            Check.due("count(0)", x.count(0), n + 3);
        }
        Check.change(x, "ha", 1);
        Check.due("count(5)", x.count(5), 4);
        Check.due("undo()", x.undo(), 3);
        Check.due("count(0)", x.count(0), 6);
        for (int n = 2; n >= 0; n--) {
            Check.due("undo()", x.undo(), n);
            Check.due("count(0)", x.count(0), n + 3);
        }
        Check.due("undo()", x.undo(), STATE);
        Check.due("count(0)", x.count(0), 3);
        PassiveChecks y = Check.with("ka", 1);
        Check.type(y, "hb");
        Check.due("wrong(0, 0, 0)", y.wrong(0, 0, 0), 64);
        Check.due("undo()", y.undo(), 0);
        Check.due("count(4)", y.count(4), 2);
        Check.due("from(0, 0, 0)", y.from(0, 0, 0), NONE);
    }

    public static void main(String[] args) {
        newObject();
        objectsAreApart();
        typing();
        errorsOfPrograms();
        limitsOfPrograms();
        programs();
        readingAgain();
        invariants();
        longInvariants();
        undoing();
        Check.finish();
    }
}
