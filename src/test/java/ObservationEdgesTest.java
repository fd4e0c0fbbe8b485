/** The boundary cases of promises 19 to 25, and of OBSERVATIONS: a method for each sentence, which it names. */
public final class ObservationEdgesTest {
    private static final int BAD = -1, STATE = -2, FULL = -3, NONE = -9;
    private static final int LOW = Integer.MIN_VALUE, HIGH = Integer.MAX_VALUE;
    private static final int[] NO_FLAGS = {-1, 2, 3, LOW, HIGH};

    private static void starts(PassiveChecks x, int many, int lowest) {
        Check.due("starts(0)", x.starts(0), many);
        Check.due("starts(1)", x.starts(1), lowest);
    }

    /** The states for which one observation is true. */
    private static void seen(PassiveChecks x, int what, int is, int many, int lowest) {
        Check.due("sees(" + what + ", " + is + ")", x.sees(what, is), 1);
        starts(x, many, lowest);
        Check.due("forget()", x.forget(), 1);
    }

    private static PassiveChecks withSix() {
        PassiveChecks x = Check.with("ka", 1);
        for (int n = 1; n <= 6; n++) {
            Check.due("sees(0, 1), the " + n + "th", x.sees(0, 1), n);
            Check.due("count(3)", x.count(3), n);
        }
        return x;
    }

    // ---- promise 19

    private static void seesRange() {
        Check.sentence("promise 19: BAD if what or is is out of range");
        PassiveChecks x = Check.with("ka", 1);
        for (int what : new int[] {-1, 18, 19, LOW, HIGH}) {
            Check.due("sees(" + what + ", 0)", x.sees(what, 0), BAD);
            Check.due("sees(" + what + ", 1)", x.sees(what, 1), BAD);
        }
        for (int is : NO_FLAGS) {
            Check.due("sees(0, " + is + ")", x.sees(0, is), BAD);
            Check.due("sees(17, " + is + ")", x.sees(17, is), BAD);
        }
        Check.due("count(3)", x.count(3), 0);
        Check.due("sees(0, 0)", x.sees(0, 0), 1);
        Check.due("sees(17, 1)", x.sees(17, 1), 2);
        Check.due("sees(15, 1)", x.sees(15, 1), 3);
        Check.due("sees(16, 0)", x.sees(16, 0), 4);
    }

    private static void seesWhat() {
        Check.sentence("promise 19: 0 to 15 for failing at this check; 16 for ending; 17 for being thrown");
        PassiveChecks x = Check.with("k1".repeat(14) + "k=a1 k!=a3 i=a2(t)()", 18);
        seen(x, 0, 1, 0, NONE);
        seen(x, 14, 1, 192, 0);
        seen(x, 14, 0, 64, 64);
        seen(x, 15, 1, 0, NONE);
        seen(x, 15, 0, 256, 0);
        seen(x, 16, 1, 64, 64);
        seen(x, 16, 0, 192, 0);
        seen(x, 17, 1, 0, NONE);
        Check.change(x, "k1".repeat(14) + "k!=a1 k!=a3 i=a2(t)()", 18);
        seen(x, 14, 1, 64, 64);
        seen(x, 15, 1, 64, 192);
        seen(x, 15, 0, 192, 0);
        seen(x, 16, 1, 64, 0);
        seen(x, 16, 0, 192, 64);
        seen(x, 17, 1, 64, 128);
        seen(x, 17, 0, 192, 0);
    }

    private static void seventh() {
        Check.sentence("promise 19: FULL if there are six");
        PassiveChecks x = withSix();
        Check.due("sees(0, 0), the seventh", x.sees(0, 0), FULL);
        Check.due("sees(17, 1), once more", x.sees(17, 1), FULL);
        Check.due("count(3)", x.count(3), 6);
        starts(x, 64, 0);
        Check.due("forget()", x.forget(), 6);
        Check.due("sees(0, 0)", x.sees(0, 0), 1);
        starts(x, 192, 64);
    }

    private static void sixthCounts() {
        Check.sentence("OBSERVATIONS: there are up to six observations");
        PassiveChecks x = Check.with("k!=a0k!=a1k!=a2k=b0", 4);
        int[] whats = {0, 1, 2, 17, 16, 3};
        int[] many = {192, 128, 64, 64, 16, 16};
        int[] lowest = {64, 128, 192, 192, 192, 192};
        for (int n = 0; n < 6; n++) {
            Check.due("sees(" + whats[n] + ")", x.sees(whats[n], whats[n] == 16 ? 1 : 0), n + 1);
            starts(x, many[n], lowest[n]);
        }
        Check.due("forget()", x.forget(), 6);
        PassiveChecks y = Check.with("k!=a0k!=a1", 2);
        for (int n = 1; n <= 5; n++) {
            Check.due("sees(0, 0)", y.sees(0, 0), n);
        }
        starts(y, 192, 64);
        Check.due("sees(1, 1), the sixth", y.sees(1, 1), 6);
        starts(y, 64, 64);
    }

    private static void badBeforeFull() {
        Check.sentence("ERRORS: BAD rather than FULL");
        PassiveChecks x = withSix();
        Check.due("sees(18, 0)", x.sees(18, 0), BAD);
        Check.due("sees(-1, 1)", x.sees(-1, 1), BAD);
        Check.due("sees(0, 2)", x.sees(0, 2), BAD);
        Check.due("sees(17, -1)", x.sees(17, -1), BAD);
        Check.due("sees(17, 0)", x.sees(17, 0), FULL);
    }

    private static void unknownCheck() {
        Check.sentence("OBSERVATIONS: if there is no check with this number, no run fails at it");
        PassiveChecks x = Check.with("ka", 1);
        seen(x, 0, 1, 64, 0);
        seen(x, 1, 1, 0, NONE);
        seen(x, 1, 0, 256, 0);
        seen(x, 15, 1, 0, NONE);
        seen(x, 15, 0, 256, 0);
        PassiveChecks none = new PassiveChecks();
        seen(none, 0, 1, 0, NONE);
        seen(none, 0, 0, 256, 0);
        Check.due("sees(1, 1)", none.sees(1, 1), 1);
        Check.change(none, "k1 kb", 2);
        starts(none, 64, 0);
        Check.change(none, "k1", 1);
        starts(none, 0, NONE);
        Check.due("undo()", none.undo(), 1);
        starts(none, 64, 0);
    }

    private static void againstEachOther() {
        Check.sentence("OBSERVATIONS: that there is a run from this state, or that there is none");
        PassiveChecks x = Check.with("hb ib(k=b1)(t)", 4);
        seen(x, 0, 1, 256, 0);
        seen(x, 0, 0, 0, NONE);
        seen(x, 16, 1, 256, 0);
        seen(x, 17, 1, 256, 0);
        Check.due("sees(17, 1)", x.sees(17, 1), 1);
        Check.due("sees(16, 1)", x.sees(16, 1), 2);
        Check.due("sees(0, 1)", x.sees(0, 1), 3);
        starts(x, 256, 0);
        Check.due("sees(17, 0)", x.sees(17, 0), 4);
        starts(x, 0, NONE);
    }

    // ---- promise 20

    private static void forgetting() {
        Check.sentence("promise 20: removes all observations; returns how many there were");
        PassiveChecks x = withSix();
        Check.due("forget()", x.forget(), 6);
        Check.due("forget() of none", x.forget(), 0);
        Check.due("count(3)", x.count(3), 0);
        starts(x, 256, 0);
        Check.due("sees(16, 1)", x.sees(16, 1), 1);
        Check.due("forget() of one", x.forget(), 1);
        Check.told(x, "ka");
        Check.due("count(5)", x.count(5), 1);
    }

    // ---- promise 21

    private static void startsRange() {
        Check.sentence("promise 21: BAD if what is not 0 or 1");
        PassiveChecks x = new PassiveChecks();
        for (int flag : NO_FLAGS) {
            Check.due("starts(" + flag + ")", x.starts(flag), BAD);
        }
        Check.due("sees(0, 1)", x.sees(0, 1), 1);
        for (int flag : NO_FLAGS) {
            Check.due("starts(" + flag + "), where there is none", x.starts(flag), BAD);
        }
    }

    private static void startsNone() {
        Check.sentence("promise 21: returns the number, or the state, or NONE if there is none");
        PassiveChecks x = new PassiveChecks();
        starts(x, 256, 0);
        Check.due("sees(16, 1)", x.sees(16, 1), 1);
        starts(x, 256, 0);
        Check.change(x, "s&&=a3=b3&=c3=d3", 1);
        starts(x, 1, 255);
        Check.change(x, "s!||a|bcd", 1);
        starts(x, 1, 0);
        Check.change(x, "s||a|bcd", 1);
        starts(x, 255, 1);
        Check.change(x, "s0", 1);
        starts(x, 0, NONE);
    }

    private static void startsOfRuns() {
        Check.sentence("promise 21: with the present program (of runs, not of cut runs)");
        PassiveChecks x = Check.with("wa 0(a0)", 2);
        seen(x, 0, 1, 0, NONE);
        seen(x, 0, 0, 256, 0);
        seen(x, 16, 1, 256, 0);
        Check.due("wrong(1, 0, 0)", x.wrong(1, 0, 0), 256);
        seen(x, 0, 1, 0, NONE);
        PassiveChecks endless = Check.with("wa 1()", 1);
        seen(endless, 16, 1, 64, 0);
        seen(endless, 16, 0, 192, 64);
    }

    // ---- promise 22

    private static void asked(String term, int many, int variable) {
        PassiveChecks x = Check.with("s" + term, 1);
        Check.due("sees(16, 1)", x.sees(16, 1), 1);
        Check.due("starts(0)", x.starts(0), many);
        Check.due("ask()", x.ask(), variable);
    }

    private static void askNone() {
        Check.sentence("promise 22: NONE if starts() has at most one state");
        asked("0", 0, NONE);
        asked("&&=a1=b2&=c3=d0", 1, NONE);
        asked("!||a|bcd", 1, NONE);
        asked("&&=a3=b3&=c3=d3", 1, NONE);
        asked("&&=a1=b2&=c3<d2", 2, 3);
        asked("&&=a1=b2&=d0<c2", 2, 2);
    }

    private static void askSmallest() {
        Check.sentence("promise 22: the variable whose largest group is smallest");
        asked("=a0", 64, 1);
        asked("&=a0=b0", 16, 2);
        asked("&!a&!b!c", 4, 3);
        asked("&!a&!b&!c<d2", 2, 3);
        asked("!d", 64, 0);
        asked("|!a&<a2!b", 80, 2);
        asked("=ab", 64, 0);
        asked("<a3", 192, 1);
        asked("&<a2&<b3!c", 24, 3);
        asked("&<a3&<b2&!c!d", 6, 0);
    }

    private static void askFirst() {
        Check.sentence("promise 22: the first one of several");
        asked("1", 256, 0);
        asked("||a|bcd", 255, 0);
        asked("&&<a2<b2&<c2<d2", 16, 0);
        asked("&!a&<b2&<c2<d2", 8, 1);
        asked("&!a&!b&<c3<d3", 9, 2);
        Check.due("ask() of a new object", new PassiveChecks().ask(), 0);
        PassiveChecks x = Check.with("s!a", 1);
        Check.due("sees(16, 1)", x.sees(16, 1), 1);
        Check.due("ask() before starts()", x.ask(), 1);
        Check.change(x, "s0", 1);
        Check.due("ask() before starts()", x.ask(), NONE);
        Check.due("undo()", x.undo(), 1);
        Check.due("ask() before starts()", x.ask(), 1);
    }

    // ---- promises 23 and 24

    private static void imageRange() {
        Check.sentence("promises 23 and 24: BAD if image is out of range");
        PassiveChecks x = Check.with("t", 1);
        for (int image : NO_FLAGS) {
            Check.due("keep(" + image + ")", x.keep(image), BAD);
            Check.due("back(" + image + ")", x.back(image), BAD);
        }
        Check.due("back(0)", x.back(0), STATE);
        Check.due("back(1)", x.back(1), STATE);
        Check.due("keep(0)", x.keep(0), 1);
        Check.due("keep(1)", x.keep(1), 1);
        for (int image : NO_FLAGS) {
            Check.due("keep(" + image + ")", x.keep(image), BAD);
            Check.due("back(" + image + ")", x.back(image), BAD);
        }
        Check.due("count(5)", x.count(5), 1);
    }

    private static void badBeforeState() {
        Check.sentence("ERRORS: BAD rather than STATE");
        PassiveChecks x = new PassiveChecks();
        Check.due("back(2)", x.back(2), BAD);
        Check.due("back(-1)", x.back(-1), BAD);
        Check.due("back(1)", x.back(1), STATE);
    }

    private static void nothingSaved() {
        Check.sentence("promise 24: STATE if nothing is saved there");
        PassiveChecks x = Check.with("t", 1);
        Check.due("keep(1)", x.keep(1), 1);
        Check.due("back(0)", x.back(0), STATE);
        Check.due("count(5)", x.count(5), 1);
        Check.due("back(1)", x.back(1), 1);
        Check.due("back(0) still", x.back(0), STATE);
        PassiveChecks y = new PassiveChecks();
        Check.due("keep(0) of no statements", y.keep(0), 0);
        Check.due("back(0) to no statements", y.back(0), 0);
        Check.due("back(1)", y.back(1), STATE);
    }

    private static void savedBeforeIsLost() {
        Check.sentence("promise 23: what was saved in this place before is lost");
        PassiveChecks x = Check.with("t", 1);
        Check.due("keep(0)", x.keep(0), 1);
        Check.due("keep(1)", x.keep(1), 1);
        Check.change(x, "hahb", 2);
        Check.due("keep(0)", x.keep(0), 2);
        Check.change(x, "", 0);
        Check.due("back(0)", x.back(0), 2);
        Check.told(x, "hahb");
        Check.due("back(1)", x.back(1), 1);
        Check.told(x, "t");
    }

    private static void savedStatements() {
        Check.sentence("promises 23 and 24: returns the number of statements of the program");
        PassiveChecks x = Check.with("i0(t)(y()(t))", 4);
        Check.due("keep(0)", x.keep(0), 4);
        Check.change(x, "t".repeat(120), 120);
        Check.due("keep(1)", x.keep(1), 120);
        Check.due("back(0)", x.back(0), 4);
        Check.due("back(1)", x.back(1), 120);
        Check.due("count(0)", x.count(0), 120);
    }

    private static void keepIsNoChange() {
        Check.sentence("promise 23: saves the program, and no more");
        PassiveChecks x = Check.with("ka", 1);
        Check.type(x, "t");
        Check.due("keep(0)", x.keep(0), 1);
        Check.due("count(5)", x.count(5), 1);
        Check.due("count(4)", x.count(4), 1);
        Check.told(x, "ka");
        Check.due("undo()", x.undo(), 0);
        Check.due("back(0), which undo() leaves", x.back(0), 1);
        Check.told(x, "ka");
    }

    private static void staysSaved() {
        Check.sentence("promise 24: it stays saved");
        PassiveChecks x = Check.with("w1a(hb)", 2);
        Check.due("keep(1)", x.keep(1), 2);
        for (int again = 0; again < 3; again++) {
            Check.due("back(1)", x.back(1), 2);
            Check.told(x, "w1a(hb)");
            Check.invariant(x, 0, "c", 1);
            Check.told(x, "w1c(hb)");
            Check.due("undo()", x.undo(), 0);
            Check.change(x, "t", 1);
        }
    }

    private static void noChangeCanBeUndone() {
        Check.sentence("promise 24: no change can be undone then");
        PassiveChecks x = Check.with("t", 1);
        Check.due("keep(0)", x.keep(0), 1);
        for (int n = 2; n <= 7; n++) {
            Check.change(x, "t".repeat(n), n);
        }
        Check.due("count(5)", x.count(5), 6);
        Check.due("back(0)", x.back(0), 1);
        Check.due("count(5)", x.count(5), 0);
        Check.due("undo()", x.undo(), STATE);
        Check.told(x, "t");
        Check.change(x, "ha", 1);
        Check.due("count(5)", x.count(5), 1);
        Check.due("undo()", x.undo(), 0);
        Check.told(x, "t");
        Check.due("undo()", x.undo(), STATE);
    }

    private static void backLeavesTheRest() {
        Check.sentence("promise 24: restores the program that was saved, and no more");
        PassiveChecks x = Check.with("ka", 1);
        Check.due("keep(0)", x.keep(0), 1);
        Check.change(x, "w00()", 1);
        Check.due("keep(1)", x.keep(1), 1);
        Check.type(x, "hb");
        Check.due("sees(0, 1)", x.sees(0, 1), 1);
        starts(x, 0, NONE);
        Check.due("back(0)", x.back(0), 1);
        starts(x, 64, 0);
        Check.due("count(1)", x.count(1), 1);
        Check.due("count(2)", x.count(2), 0);
        Check.due("count(3)", x.count(3), 1);
        Check.due("count(4)", x.count(4), 2);
        Check.due("back(1)", x.back(1), 1);
        Check.due("loop(0, 2)", x.loop(0, 2), 0);
        Check.due("wrong(1, 0, 0)", x.wrong(1, 0, 0), 256);
    }

    private static void longProgramSaved() {
        Check.sentence("promises 23 and 24: a program that its invariants make longer than 120 characters");
        PassiveChecks x = Check.with("w00()".repeat(4) + "t".repeat(100), 104);
        for (int l = 0; l < 4; l++) {
            Check.invariant(x, l, "!".repeat(119) + "d", 120);
        }
        Check.due("keep(1)", x.keep(1), 104);
        Check.change(x, "", 0);
        Check.due("undo()", x.undo(), 5);
        Check.due("told(-1)", x.told(-1), 596);
        Check.change(x, "", 0);
        Check.due("back(1)", x.back(1), 104);
        Check.due("told(-1)", x.told(-1), 596);
        Check.due("told(595)", x.told(595), 't');
        Check.due("loop(3, 2)", x.loop(3, 2), 64);
    }

    // ---- promise 25

    private static void countRange() {
        Check.sentence("promise 25: BAD if what is not 0 to 5");
        PassiveChecks x = new PassiveChecks();
        for (int what : new int[] {-1, 6, 7, LOW, HIGH}) {
            Check.due("count(" + what + ")", x.count(what), BAD);
        }
        Check.due("count(0)", x.count(0), 0);
        Check.due("count(5)", x.count(5), 0);
    }

    private static void counts(PassiveChecks x, int... due) {
        for (int what = 0; what < due.length; what++) {
            Check.due("count(" + what + ")", x.count(what), due[what]);
        }
    }

    private static void countsAtTheirLimits() {
        Check.sentence("promise 25: the counts, from none to the most");
        PassiveChecks x = new PassiveChecks();
        counts(x, 0, 0, 0, 0, 0, 0);
        for (int n = 0; n < 7; n++) {
            Check.change(x, "w00()w00()w00()w00()" + "k1".repeat(8), 12);
        }
        for (int n = 0; n < 8; n++) {
            x.sees(n, 0);
        }
        Check.type(x, " ".repeat(120));
        counts(x, 12, 16, 4, 6, 120, 6);
        Check.due("clear()", x.clear(), 120);
        Check.due("forget()", x.forget(), 6);
        Check.change(x, "t".repeat(120), 120);
        counts(x, 120, 0, 0, 0, 0, 6);
        Check.due("undo()", x.undo(), 5);
        counts(x, 12, 16, 4, 0, 0, 5);
    }

    private static void countsApart() {
        Check.sentence("promise 25: 0 statements; 1 checks; 2 loops; 3 observations; 4 characters; 5 changes");
        PassiveChecks x = Check.with("t", 1);
        Check.change(x, "w11(p1a1k1)hbhchdia()(t)", 8);
        Check.change(x, "w11(pa a1)w00()ka hb y(t)()", 7);
        Check.type(x, "abcdef");
        Check.due("sees(5, 0)", x.sees(5, 0), 1);
        counts(x, 7, 6, 2, 1, 6, 3);
    }

    public static void main(String[] args) {
        seesRange();
        seesWhat();
        seventh();
        sixthCounts();
        badBeforeFull();
        unknownCheck();
        againstEachOther();
        forgetting();
        startsRange();
        startsNone();
        startsOfRuns();
        askNone();
        askSmallest();
        askFirst();
        imageRange();
        badBeforeState();
        nothingSaved();
        savedBeforeIsLost();
        savedStatements();
        keepIsNoChange();
        staysSaved();
        noChangeCanBeUndone();
        backLeavesTheRest();
        longProgramSaved();
        countRange();
        countsAtTheirLimits();
        countsApart();
        Check.finish();
    }
}
