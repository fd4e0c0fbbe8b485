/** The boundary cases of promises 1 to 6 and of TEXTS: a method for each sentence, which it names. */
public final class TextEdgesTest {
    private static final int BAD = -1, STATE = -2, FULL = -3, NONE = -9;
    private static final int LOW = Integer.MIN_VALUE, HIGH = Integer.MAX_VALUE;
    private static final String FILL = " ".repeat(120);
    /** Each kind of statement, with nothing that can be left out behind it. */
    private static final String ALL = "a+1b hc k!d s=a2 p<b3d|0c i&1 2(y(t)(hb))(w-a1 3(k0)) t";

    // ---- promise 1

    private static void newProgramIsEmpty() {
        Check.sentence("promise 1: a program without statements");
        PassiveChecks x = new PassiveChecks();
        Check.due("count(0)", x.count(0), 0);
        Check.due("count(1)", x.count(1), 0);
        Check.due("count(2)", x.count(2), 0);
        Check.due("told(-1)", x.told(-1), 0);
        Check.due("told(0)", x.told(0), NONE);
        Check.due("ends(0, 255, 0, 0)", x.ends(0, 255, 0, 0), 255);
        Check.due("ends(1, 255, 0, 1)", x.ends(1, 255, 0, 1), NONE);
        Check.due("keep(1)", x.keep(1), 0);
    }

    private static void newTextIsEmpty() {
        Check.sentence("promise 1: the text is empty");
        PassiveChecks x = new PassiveChecks();
        Check.due("count(4)", x.count(4), 0);
        Check.due("clear()", x.clear(), 0);
        Check.due("type(32)", x.type(32), 1);
    }

    private static void newHasNoObservations() {
        Check.sentence("promise 1: there are no observations");
        PassiveChecks x = new PassiveChecks();
        Check.due("count(3)", x.count(3), 0);
        Check.due("starts(0)", x.starts(0), 256);
        Check.due("forget()", x.forget(), 0);
        Check.due("sees(17, 1)", x.sees(17, 1), 1);
    }

    private static void newHasNothingSaved() {
        Check.sentence("promise 1: nothing is saved");
        PassiveChecks x = new PassiveChecks();
        Check.due("back(0)", x.back(0), STATE);
        Check.due("back(1)", x.back(1), STATE);
        Check.due("count(5)", x.count(5), 0);
        Check.due("undo()", x.undo(), STATE);
    }

    private static void objectsAreApart() {
        Check.sentence("promise 1: creates a workbench");
        PassiveChecks x = Check.with("ka w0 0()", 2);
        PassiveChecks y = new PassiveChecks();
        Check.type(x, "kb");
        Check.due("sees(0, 1)", x.sees(0, 1), 1);
        Check.due("keep(0)", x.keep(0), 2);
        for (int what = 0; what < 6; what++) {
            Check.due("count(" + what + ") of another", y.count(what), 0);
        }
        Check.due("back(0) of another", y.back(0), STATE);
        Check.due("starts(0) of another", y.starts(0), 256);
        Check.change(y, "t", 1);
        Check.due("wrong(0, 0, 0)", x.wrong(0, 0, 0), 64);
        Check.due("starts(0)", x.starts(0), 64);
    }

    // ---- promise 2

    private static void letterRange() {
        Check.sentence("promise 2: its code, 0 to 255; BAD if letter is out of range");
        PassiveChecks x = new PassiveChecks();
        Check.due("type(0)", x.type(0), 1);
        for (int letter : new int[] {-1, 256, 257, 256 + 't', -256, LOW, LOW + 't', HIGH}) {
            Check.due("type(" + letter + ")", x.type(letter), BAD);
            Check.due("count(4)", x.count(4), 1);
        }
        Check.due("type(255)", x.type(255), 2);
    }

    private static void typedReturnsLength() {
        Check.sentence("promise 2: returns how many characters the text has then");
        PassiveChecks x = new PassiveChecks();
        for (int n = 1; n <= 120; n++) {
            Check.due("type(" + n + ")", x.type(n), n);
            Check.due("count(4)", x.count(4), n);
        }
    }

    private static void fullText() {
        Check.sentence("promise 2: FULL if it has 120 characters");
        PassiveChecks x = new PassiveChecks();
        Check.type(x, FILL.substring(1));
        Check.due("type('t'), the last one", x.type('t'), 120);
        Check.due("type('k')", x.type('k'), FULL);
        Check.due("type(255)", x.type(255), FULL);
        Check.due("count(4)", x.count(4), 120);
        Check.due("program()", x.program(), 1);
        Check.told(x, "t");
        Check.due("type('k') after program()", x.type('k'), 1);
        Check.due("clear()", x.clear(), 1);
        Check.type(x, FILL);
        Check.due("type(32)", x.type(32), FULL);
        Check.due("clear()", x.clear(), 120);
        Check.due("type(32) after clear()", x.type(32), 1);
    }

    private static void badBeforeFull() {
        Check.sentence("ERRORS: BAD rather than FULL");
        PassiveChecks x = new PassiveChecks();
        Check.type(x, FILL);
        for (int letter : new int[] {-1, 256, LOW, HIGH}) {
            Check.due("type(" + letter + ")", x.type(letter), BAD);
        }
        Check.due("type(255)", x.type(255), FULL);
        Check.due("count(4)", x.count(4), 120);
    }

    // ---- promise 3

    private static void clearing() {
        Check.sentence("promise 3: empties the text, returns how many characters it had");
        PassiveChecks x = Check.with("ka", 1);
        Check.due("clear() of none", x.clear(), 0);
        Check.type(x, " ");
        Check.due("clear() of one", x.clear(), 1);
        Check.due("clear() again", x.clear(), 0);
        Check.type(x, FILL);
        Check.due("clear() of all", x.clear(), 120);
        Check.due("count(4)", x.count(4), 0);
        Check.due("count(5)", x.count(5), 1);
        Check.told(x, "ka");
        Check.due("program() of the empty text", x.program(), 0);
    }

    // ---- promise 4

    private static void emptyProgram() {
        Check.sentence("PROGRAMS: a sequence of statements, none of them too");
        PassiveChecks x = Check.with("", 0);
        Check.due("count(5)", x.count(5), 1);
        Check.change(x, "t", 1);
        Check.change(x, " ", 0);
        Check.change(x, FILL, 0);
        Check.due("count(5)", x.count(5), 4);
        Check.due("told(-1)", x.told(-1), 0);
        Check.due("from(0, 3, 1)", x.from(0, 3, 1), 1);
        Check.due("undo()", x.undo(), 3);
        Check.due("undo()", x.undo(), 2);
        Check.told(x, "t");
    }

    private static void statementsReturned() {
        Check.sentence("promise 4: returns the number of statements, those in blocks included");
        Check.with("t", 1);
        Check.with("t".repeat(120), 120);
        Check.with("i0(t)(t)", 3);
        Check.with("y(i0()(t))(w0 0(t))", 5);
        Check.with("y(".repeat(24) + ")()".repeat(24), 24);
        Check.with(ALL, 12);
    }

    private static void programEmptiesText() {
        Check.sentence("promise 4: empties the text");
        PassiveChecks x = Check.with("t t", 2);
        Check.due("count(4)", x.count(4), 0);
        Check.due("program()", x.program(), 0);
        Check.due("type('t')", x.type('t'), 1);
    }

    private static void programReplaces() {
        Check.sentence("promise 4: it replaces the present program");
        PassiveChecks x = Check.with("kaw1a(hb)w0 0()p1c1", 5);
        Check.change(x, "kb", 1);
        Check.told(x, "kb");
        Check.due("count(1)", x.count(1), 1);
        Check.due("count(2)", x.count(2), 0);
        Check.due("kind(1)", x.kind(1), BAD);
        Check.due("loop(0, 0)", x.loop(0, 0), BAD);
        Check.due("wrong(0, 0, 0)", x.wrong(0, 0, 0), 64);
        Check.due("starts(0)", x.starts(0), 256);
        Check.change(x, "w0 1(ha hb)", 3);
        Check.change(x, "w0 1(hc)", 2);
        Check.due("loop(0, 1)", x.loop(0, 1), 4);
        Check.due("ends(1, 0, 0, -1)", x.ends(1, 0, 0, -1), 4);
        Check.change(x, "w0 1()", 1);
        Check.due("loop(0, 1)", x.loop(0, 1), 0);
        Check.due("ends(1, 0, 0, -1)", x.ends(1, 0, 0, -1), 1);
    }

    private static void openBlocksForgotten() {
        Check.sentence("promise 4: what a text with an error leaves open does not matter");
        PassiveChecks x = Check.with("w00(w00(", -18);
        Check.due("clear()", x.clear(), 8);
        Check.change(x, "w00(w00(t))t", 4);
        Check.change(x, "y(i0()(", -17);
        Check.due("clear()", x.clear(), 7);
        Check.change(x, "t)", -11);
        Check.due("clear()", x.clear(), 2);
        Check.change(x, "k1".repeat(16) + "w", -42);
        Check.due("clear()", x.clear(), 33);
        Check.change(x, "w00(w00())w00(w00(k1k1k1k1k1k1k1k1))", 12);
        Check.due("count(1)", x.count(1), 16);
    }

    private static void sixChanges() {
        Check.sentence("promise 4: the latest six changes can be undone");
        PassiveChecks x = new PassiveChecks();
        for (int n = 1; n <= 6; n++) {
            Check.change(x, "hb" + "t".repeat(n), n + 1);
            Check.due("count(5)", x.count(5), n);
        }
        for (int n = 5; n >= 1; n--) {
            Check.due("undo()", x.undo(), n);
            Check.told(x, "hb" + "t".repeat(n));
        }
    }

    private static PassiveChecks withPrograms(int many) {
        PassiveChecks x = new PassiveChecks();
        for (int n = 1; n <= many; n++) {
            Check.change(x, "t".repeat(n), n);
        }
        return x;
    }

    private static void seventhChange(int many, int oldest) {
        PassiveChecks x = withPrograms(many);
        Check.due("count(5)", x.count(5), 6);
        for (int n = 5; n >= 0; n--) {
            Check.due("undo()", x.undo(), n);
            Check.due("count(0)", x.count(0), oldest + n);
        }
        Check.due("undo()", x.undo(), STATE);
        Check.due("count(0)", x.count(0), oldest);
    }

    private static void seventhChanges() {
        Check.sentence("promise 4: the seventh change, after which the first one stays");
        seventhChange(6, 0);
        seventhChange(7, 1);
        seventhChange(8, 2);
        seventhChange(13, 7);
    }

    private static void observationsAndSavedStay() {
        Check.sentence("promise 4: observations and saved programs stay");
        PassiveChecks x = Check.with("ka", 1);
        Check.due("sees(0, 1)", x.sees(0, 1), 1);
        Check.due("keep(1)", x.keep(1), 1);
        Check.change(x, "k<b2 t", 2);
        Check.due("count(3)", x.count(3), 1);
        Check.due("starts(0)", x.starts(0), 128);
        Check.due("back(0)", x.back(0), STATE);
        Check.due("back(1)", x.back(1), 1);
        Check.told(x, "ka");
    }

    private static void wrongProgramChangesNothing() {
        Check.sentence("promise 4: nothing changes if the text has an error, and the text stays");
        PassiveChecks x = Check.with("ka w1 a(ha)", 3);
        Check.change(x, "w0 b(hc)k", -19);
        Check.due("count(4)", x.count(4), 9);
        Check.due("count(5)", x.count(5), 1);
        Check.told(x, "kaw1a(ha)");
        Check.due("loop(0, 1)", x.loop(0, 1), 1);
        Check.due("loop(0, 2)", x.loop(0, 2), 192);
        Check.due("wrong(0, 0, 0)", x.wrong(0, 0, 0), 64);
        Check.due("program() again", x.program(), -19);
        Check.due("type('c')", x.type('c'), 10);
        Check.due("program()", x.program(), 3);
        Check.told(x, "w0b(hc)kc");
    }

    // ---- promise 5

    private static void loopRange() {
        Check.sentence("promise 5: BAD if there is no such loop");
        PassiveChecks none = Check.with("a1", 1);
        Check.invariant(none, 0, "1", BAD);
        Check.due("count(4)", none.count(4), 1);
        Check.due("invariant(0) of a new object", new PassiveChecks().invariant(0), BAD);
        PassiveChecks x = Check.with("w0 0(w0 0())w0 0()w0 0()", 4);
        Check.type(x, "a");
        for (int loop : new int[] {-1, 4, 5, LOW, HIGH}) {
            Check.due("invariant(" + loop + ")", x.invariant(loop), BAD);
        }
        Check.due("count(4)", x.count(4), 1);
        Check.due("count(5)", x.count(5), 1);
        Check.due("invariant(3)", x.invariant(3), 1);
        Check.told(x, "w00(w00())w00()w0a()");
        Check.invariant(x, 0, "=a1", 3);
        Check.told(x, "w0=a1(w00())w00()w0a()");
        PassiveChecks one = Check.with("w00()", 1);
        Check.invariant(one, 1, "a", BAD);
        Check.due("invariant(0)", one.invariant(0), 1);
    }

    private static void badBeforeTextError() {
        Check.sentence("promise 5: BAD before the error position of the text");
        PassiveChecks x = Check.with("w00()", 1);
        Check.due("invariant(1) of no text", x.invariant(1), BAD);
        Check.due("invariant(-1) of no text", x.invariant(-1), BAD);
        Check.due("invariant(0) of no text", x.invariant(0), -10);
    }

    private static void termLength() {
        Check.sentence("promise 5: returns how many characters the term has, without spaces");
        PassiveChecks x = Check.with("w00()", 1);
        Check.invariant(x, 0, "d", 1);
        Check.invariant(x, 0, FILL.substring(1) + "3", 1);
        Check.told(x, "w03()");
        Check.invariant(x, 0, "2" + FILL.substring(1), 1);
        Check.invariant(x, 0, " + a  ! b ", 4);
        Check.told(x, "w0+a!b()");
        PassiveChecks y = Check.with("w00()", 1);
        Check.invariant(y, 0, "!".repeat(119) + "a", 120);
        Check.due("told(-1)", y.told(-1), 124);
        Check.due("loop(0, 2)", y.loop(0, 2), 64);
        Check.invariant(y, 0, "+".repeat(59) + "1".repeat(60), 119);
        Check.due("loop(0, 2)", y.loop(0, 2), 0);
    }

    private static void invariantEmptiesText() {
        Check.sentence("promise 5: empties the text");
        PassiveChecks x = Check.with("w00()", 1);
        Check.invariant(x, 0, " 1 ", 1);
        Check.due("count(4)", x.count(4), 0);
        Check.due("invariant(0) of no text", x.invariant(0), -10);
    }

    private static void invariantsUndone() {
        Check.sentence("promise 5: this is a change; the latest six changes can be undone");
        PassiveChecks x = Check.with("w00()w01()", 2);
        for (int n = 1; n <= 6; n++) {
            Check.invariant(x, n & 1, "+" + n % 4 + "a", 3);
            Check.due("count(5)", x.count(5), Math.min(n + 1, 6));
        }
        Check.told(x, "w0+2a()w0+1a()");
        for (int n = 5; n >= 0; n--) {
            Check.due("undo()", x.undo(), n);
        }
        Check.told(x, "w00()w01()");
        Check.due("undo()", x.undo(), STATE);
    }

    private static void wrongTermChangesNothing() {
        Check.sentence("promise 5: nothing changes if the term has an error, and the text stays");
        PassiveChecks x = Check.with("w0 b()", 1);
        Check.invariant(x, 0, "=a", -12);
        Check.due("count(4)", x.count(4), 2);
        Check.due("count(5)", x.count(5), 1);
        Check.told(x, "w0b()");
        Check.due("loop(0, 2)", x.loop(0, 2), 192);
        Check.due("type('1')", x.type('1'), 3);
        Check.due("invariant(0)", x.invariant(0), 3);
        Check.told(x, "w0=a1()");
        Check.due("loop(0, 2)", x.loop(0, 2), 64);
    }

    // ---- promise 6

    private static void nothingToUndo() {
        Check.sentence("promise 6: STATE if there is none");
        PassiveChecks x = new PassiveChecks();
        Check.due("undo() of a new object", x.undo(), STATE);
        Check.change(x, "t", 1);
        Check.due("undo() of the only change", x.undo(), 0);
        Check.due("count(0)", x.count(0), 0);
        Check.due("undo() once more", x.undo(), STATE);
        Check.change(x, "k", -11);
        Check.due("undo() after an error", x.undo(), STATE);
        Check.due("clear()", x.clear(), 1);
        Check.due("keep(0)", x.keep(0), 0);
        Check.due("undo() after keep()", x.undo(), STATE);
    }

    private static void latestNotUndoneYet() {
        Check.sentence("promise 6: undoes the latest change that is not undone yet");
        PassiveChecks x = withPrograms(3);
        Check.due("undo()", x.undo(), 2);
        Check.due("undo()", x.undo(), 1);
        Check.told(x, "t");
        Check.change(x, "hb", 1);
        Check.due("count(5)", x.count(5), 2);
        Check.due("undo()", x.undo(), 1);
        Check.told(x, "t");
        Check.due("undo()", x.undo(), 0);
        Check.told(x, "");
    }

    private static void undoFillsUpAgain() {
        Check.sentence("promise 6: how many changes can still be undone, six at most");
        PassiveChecks x = withPrograms(6);
        Check.due("undo()", x.undo(), 5);
        Check.change(x, "ha", 1);
        Check.due("count(5)", x.count(5), 6);
        Check.change(x, "hb", 1);
        Check.due("count(5)", x.count(5), 6);
        Check.due("undo()", x.undo(), 5);
        Check.told(x, "ha");
        Check.due("undo()", x.undo(), 4);
        Check.told(x, "ttttt");
    }

    private static void undoLeavesTheRest() {
        Check.sentence("promise 6: the program becomes as it was before it");
        PassiveChecks x = Check.with("ka", 1);
        Check.change(x, "w0 b()", 1);
        Check.invariant(x, 0, "=c1", 3);
        Check.type(x, "kb");
        Check.due("sees(0, 1)", x.sees(0, 1), 1);
        Check.due("keep(0)", x.keep(0), 1);
        Check.due("wrong(1, 0, 0)", x.wrong(1, 0, 0), 192);
        Check.due("undo()", x.undo(), 2);
        Check.told(x, "w0b()");
        Check.due("wrong(1, 0, 0)", x.wrong(1, 0, 0), 64);
        Check.due("undo()", x.undo(), 1);
        Check.told(x, "ka");
        Check.due("wrong(0, 0, 0)", x.wrong(0, 0, 0), 64);
        Check.due("count(4)", x.count(4), 2);
        Check.due("count(3)", x.count(3), 1);
        Check.due("back(0)", x.back(0), 1);
        Check.told(x, "w0=c1()");
    }

    // ---- TEXTS

    private static void error(String text, int position) {
        Check.with(text, -10 - position);
    }

    private static int firstSign(char sign) {
        if (sign == ' ') {
            return 0;
        }
        if (sign == 't') {
            return 1;
        }
        return "abcdhkspiwy".indexOf(sign) >= 0 ? -11 : -10;
    }

    private static int behind(int length, char sign, String complete, String open) {
        if (complete.indexOf(sign) >= 0) {
            return 1;
        }
        return sign == ' ' || open.indexOf(sign) >= 0 ? -10 - length - 1 : -10 - length;
    }

    /** Each of the 256 characters at each kind of place. */
    private static void allowedSigns() {
        Check.sentence("TEXTS: a character that is not allowed at its place");
        for (char sign = 0; sign < 256; sign++) {
            Check.with("" + sign, firstSign(sign));
            Check.with("k" + sign, behind(1, sign, "0123abcd", "+-=<&|!"));
            Check.with("d" + sign, behind(1, sign, "0123abcd", "+-=<&|!"));
            Check.with("s!" + sign, behind(2, sign, "0123abcd", "+-=<&|!"));
            Check.with("h" + sign, behind(1, sign, "abcd", ""));
            Check.with("p1" + sign, behind(2, sign, "", "abcd"));
            Check.with("y" + sign, behind(1, sign, "", "("));
            Check.with("i0()" + sign, behind(4, sign, "", "("));
            Check.with("w0 0" + sign, behind(4, sign, "", "("));
            Check.with("y(" + sign, behind(2, sign, "", "abcdhkspiwyt)"));
            Check.with("w00(" + sign, behind(4, sign, ")", "abcdhkspiwyt"));
        }
    }

    private static void endsTooEarly() {
        Check.sentence("TEXTS: the length of the text if the text ends too early");
        String whole = "y(i+a1(p!b c 2)(w<a3 =b0(d|1c hb)))(t)";
        PassiveChecks x = Check.with(whole, 7);
        Check.due("count(0)", x.count(0), 7);
        for (int n = 1; n < whole.length(); n++) {
            error(whole.substring(0, n), n);
            error(whole.substring(0, n) + "   ", n + 3);
        }
        error(FILL.substring(1) + "k", 120);
        error("k" + FILL.substring(1), 120);
        error("y(" + "t".repeat(118), 120);
        error("k" + "!".repeat(119), 120);
    }

    private static void firstErrorCounts() {
        Check.sentence("TEXTS: the index of the first character, not a space, that is not allowed");
        for (int n = 0; n <= ALL.length(); n++) {
            error(ALL.substring(0, n) + "?" + ALL.substring(n) + "?", n);
            error(ALL.substring(0, n) + "  ?)", n + 2);
        }
        error("t".repeat(119) + "(", 119);
        error(FILL.substring(1) + ")", 119);
        error("a4 b5 e", 1);
        error("t) k", 1);
    }

    private static void spaces() {
        Check.sentence("TEXTS: spaces (code 32) may stand anywhere and are ignored");
        StringBuilder wide = new StringBuilder(" ");
        for (int i = 0; i < ALL.length(); i++) {
            wide.append(ALL.charAt(i)).append(' ');
        }
        PassiveChecks x = Check.with(wide.toString(), 12);
        Check.told(x, ALL.replace(" ", ""));
        PassiveChecks y = Check.with(ALL.replace(" ", ""), 12);
        Check.told(y, ALL.replace(" ", ""));
        Check.due("copied()", x.copied(), y.copied());
        for (char sign : new char[] {0, 9, 10, 13, 31, 160}) {
            error("t" + sign, 1);
            error("k" + sign + "1", 1);
        }
    }

    private static void fifthLoop() {
        Check.sentence("TEXTS: the w of a fifth loop is not allowed");
        String four = "w00()w00(w00())w00()";
        Check.due("count(2)", Check.with(four, 4).count(2), 4);
        error(four + "w00()", 20);
        error(four + "w", 20);
        error(four + "  i0()(w00())", 27);
        error("w00()w00()w00()w00(w00())", 19);
        error("w00(w00()w00()w00()w00())", 19);
        Check.with(four + "t", 5);
    }

    private static void loopWithinTwo() {
        Check.sentence("TEXTS: the w of a loop within two others is not allowed");
        Check.with("w00(w00())", 2);
        error("w00(w00(w00()))", 8);
        error("w00(w00(w", 8);
        error("w00(w00(t w", 10);
        error("w00(i0()(y(w00(y()(y(w00())())))()))", 21);
        error("w00(w00()w00(w00()))", 13);
        Check.due("count(2)", Check.with("w00(w00()w00())w00()", 4).count(2), 4);
        Check.due("count(2)", Check.with("w00(i0(w00())(w00()))", 4).count(2), 3);
        Check.due("count(2)", Check.with("w00(w00())w00(w00())", 4).count(2), 4);
    }

    private static void seventeenthCheck() {
        Check.sentence("TEXTS: a letter k, w or p with which there would be more than 16 checks is not allowed");
        String fourteen = "w00()p1a1".repeat(4) + "k1k1";
        String fifteen = "w00()p1a1w00(w00())" + "k1".repeat(8);
        String sixteen = fourteen + "k1k1";
        Check.due("count(1)", Check.with(fourteen, 10).count(1), 14);
        Check.due("count(1)", Check.with(fifteen, 12).count(1), 15);
        Check.due("count(1)", Check.with(sixteen, 12).count(1), 16);
        Check.due("count(1)", Check.with(fifteen + "p1a1", 13).count(1), 16);
        Check.due("count(1)", Check.with(fifteen + "k1", 13).count(1), 16);
        error(fifteen + "w00()", fifteen.length());
        error(sixteen + "k1", sixteen.length());
        error(sixteen + " p1a1", sixteen.length() + 1);
        error(sixteen + "y(k1)()", sixteen.length() + 2);
        String most = "k1".repeat(14);
        Check.due("count(1)", Check.with(most + "w00()", 15).count(1), 16);
        error(most + "w00()k", 33);
        error(most + "w00(p", 32);
        error(most + "k1w", 30);
        error(most + "k1k1w", 32);
        Check.with(sixteen + "t h a a1 s1 i0()() y()()", 18);
    }

    private static void behindTerm() {
        Check.sentence("TEXTS: for a term nothing but spaces may stand behind it");
        for (char sign = 0; sign < 256; sign++) {
            PassiveChecks x = Check.with("w00()", 1);
            Check.invariant(x, 0, "!a" + sign, sign == ' ' ? 2 : -12);
            PassiveChecks y = Check.with("w00()", 1);
            Check.invariant(y, 0, "" + sign, behind(0, sign, "0123abcd", "+-=<&|!"));
        }
        PassiveChecks x = Check.with("w00()", 1);
        Check.invariant(x, 0, "a    1 ", -15);
        x.clear();
        Check.invariant(x, 0, " +a1   ", 3);
        Check.invariant(x, 0, " =a  ", -15);
        x.clear();
        Check.invariant(x, 0, "   ", -13);
        x.clear();
        Check.invariant(x, 0, FILL, -130);
        x.clear();
        Check.invariant(x, 0, "1" + FILL.substring(2) + "1", -129);
        x.clear();
        Check.invariant(x, 0, "!".repeat(120), -130);
        x.clear();
        Check.invariant(x, 0, "w", -10);
        Check.told(x, "w0+a1()");
    }

    private static void lastCall() {
        Check.sentence("the object is used for at most 512 calls");
        PassiveChecks x = new PassiveChecks();
        for (int n = 0; n < 127; n++) {
            Check.due("type('k')", x.type('k'), 1);
            Check.due("type('a')", x.type('a'), 2);
            Check.due("program()", x.program(), 1);
            Check.due("count(5)", x.count(5), Math.min(n + 1, 6));
        }
        Check.due("undo()", x.undo(), 5);
        Check.due("wrong(0, 0, 0)", x.wrong(0, 0, 0), 64);
        Check.due("keep(1)", x.keep(1), 1);
        Check.due("back(1), the 512th call", x.back(1), 1);
    }

    public static void main(String[] args) {
        newProgramIsEmpty();
        newTextIsEmpty();
        newHasNoObservations();
        newHasNothingSaved();
        objectsAreApart();
        letterRange();
        typedReturnsLength();
        fullText();
        badBeforeFull();
        clearing();
        emptyProgram();
        statementsReturned();
        programEmptiesText();
        programReplaces();
        openBlocksForgotten();
        sixChanges();
        seventhChanges();
        observationsAndSavedStay();
        wrongProgramChangesNothing();
        loopRange();
        badBeforeTextError();
        termLength();
        invariantEmptiesText();
        invariantsUndone();
        wrongTermChangesNothing();
        nothingToUndo();
        latestNotUndoneYet();
        undoFillsUpAgain();
        undoLeavesTheRest();
        allowedSigns();
        endsTooEarly();
        firstErrorCounts();
        spaces();
        fifthLoop();
        loopWithinTwo();
        seventeenthCheck();
        behindTerm();
        lastCall();
        Check.finish();
    }
}
