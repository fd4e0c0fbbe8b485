/** The boundary cases of promises 15 to 18, and of THE PASSIVE FORM: a method for each sentence, which it names. */
public final class PassiveEdgesTest {
    private static final int BAD = -1;
    private static final int LOW = Integer.MIN_VALUE, HIGH = Integer.MAX_VALUE;

    private static void form(String program, int statements, String versions, int equalities, int linear) {
        PassiveChecks x = Check.with(program, statements);
        for (int v = 0; v < 4; v++) {
            Check.due("versions(" + v + ")", x.versions(v), versions.charAt(v) - '0');
        }
        Check.due("equalities()", x.equalities(), equalities);
        Check.due("linear()", x.linear(), linear);
    }

    private static void copied(String program, int statements, long size) {
        Check.due("copied()", Check.with(program, statements).copied(), size);
    }

    // ---- promises 15 to 17

    private static void versionRange() {
        Check.sentence("promise 15: BAD if v is out of range");
        for (PassiveChecks x : new PassiveChecks[] {new PassiveChecks(), Check.with("hahahbhbhbhcd1", 7)}) {
            for (int v : new int[] {-1, 4, 5, LOW, HIGH}) {
                Check.due("versions(" + v + ")", x.versions(v), BAD);
            }
        }
        PassiveChecks x = Check.with("hahahbhbhbhchchchchd", 10);
        int[] due = {2, 3, 4, 1};
        for (int v = 0; v < 4; v++) {
            Check.due("versions(" + v + ")", x.versions(v), due[v]);
        }
    }

    private static void formOfNothing() {
        Check.sentence("promises 15 to 18: of a program without statements");
        PassiveChecks x = new PassiveChecks();
        for (int again = 0; again < 2; again++) {
            for (int v = 0; v < 4; v++) {
                Check.due("versions(" + v + ")", x.versions(v), 0);
            }
            Check.due("equalities()", x.equalities(), 0);
            Check.due("linear()", x.linear(), 0);
            Check.due("copied()", x.copied(), 1);
            Check.change(x, "i0(ha)()", 2);
            Check.due("versions(0)", x.versions(0), 2);
            Check.change(x, "", 0);
        }
    }

    private static void greatestForms() {
        Check.sentence("promises 15 to 17: the greatest forms of 120 characters");
        PassiveChecks x = Check.with("hd".repeat(60), 60);
        Check.due("versions(3)", x.versions(3), 60);
        Check.due("linear()", x.linear(), 60);
        PassiveChecks y = Check.with("y(" + "i0(t)()ha".repeat(12) + ")(t)", 38);
        Check.due("versions(0)", y.versions(0), 13);
        Check.due("equalities()", y.equalities(), 12);
        Check.due("linear()", y.linear(), 1 + 12 * 4 + 1 + 3 * 12);
        PassiveChecks z = Check.with("i0(hahbhchd)()".repeat(8), 40);
        for (int v = 0; v < 4; v++) {
            Check.due("versions(" + v + ")", z.versions(v), 16);
        }
        Check.due("equalities()", z.equalities(), 64);
        Check.due("linear()", z.linear(), 8 * 6 + 3 * 64);
    }

    private static void linearTerms() {
        Check.sentence("promise 17: 1 for each statement, plus the number of characters of its terms");
        form("k!!!a", 1, "0000", 0, 5);
        form("s+a1", 1, "0000", 0, 4);
        form("p=a1b<b2", 1, "0100", 0, 7);
        form("hc", 1, "0010", 0, 1);
        form("d|a b", 1, "0001", 0, 4);
        form("t", 1, "0000", 0, 1);
        form("i&ab()()", 1, "0000", 0, 4);
        form("y()()", 1, "0000", 0, 1);
        form("w!a=b1()", 1, "0000", 0, 1 + 2 + 9);
    }

    private static void linearInvariant() {
        Check.sentence("promise 17: of an invariant three times this number");
        PassiveChecks x = Check.with("w1 0()", 1);
        Check.due("linear()", x.linear(), 5);
        Check.invariant(x, 0, "!".repeat(119) + "0", 120);
        Check.due("linear()", x.linear(), 2 + 360);
        Check.due("copied()", x.copied(), 360 + 2 + 120 + 1 + 1);
        Check.due("undo()", x.undo(), 1);
        Check.due("linear()", x.linear(), 5);
    }

    private static void linearThrow() {
        Check.sentence("promise 17: a throw is traversed itself, and so is each statement whose block is not reached to its end");
        form("t t", 2, "0000", 0, 1);
        form("i0(t)(t)", 3, "0000", 0, 4);
        form("w01(t)", 2, "0000", 0, 6);
        form("y(t)(t)", 3, "0000", 0, 3);
        form("i0(i0(t)(t)a1)(t)", 6, "0000", 0, 7);
    }

    // ---- THE PASSIVE FORM

    private static void newVersions() {
        Check.sentence("THE PASSIVE FORM: assignment, havoc and call: the variable gets a new version");
        form("a1 hb p1c1", 3, "1110", 0, 6);
        form("k1 s1 i0()() y()() w01()", 5, "0000", 0, 12);
    }

    private static void behindThrow() {
        Check.sentence("THE PASSIVE FORM: what stands after a throw in the same block (or program) is not traversed");
        form("a1 t a2 t hb", 5, "1000", 0, 3);
        form("t i0(ha)(hb)w01(hc)", 6, "0000", 0, 1);
        form("i0(ha t hb)(hc)hd", 6, "1011", 0, 6);
        form("y(ha t hb t)(hc)hd", 7, "1011", 0, 5);
    }

    private static void loops() {
        Check.sentence("THE PASSIVE FORM: after the loop the versions are as they were directly before the block");
        form("w01(ha)i0()(ha)", 4, "4000", 2, 15);
        form("w01(hahb)i0()()", 4, "2200", 0, 9);
        form("w01()ha", 2, "1000", 0, 6);
        form("i0(w01(ha))()", 3, "3000", 2, 14);
        form("w01(w01(hb))", 3, "0300", 0, 11);
        form("w01(i0(ha)(hb))", 4, "3300", 4, 21);
    }

    private static void loopNotReachedToItsEnd() {
        Check.sentence("THE PASSIVE FORM: what comes after the loop is traversed in any case");
        form("w01(t)hb", 3, "0100", 0, 7);
        form("y(w01(t)hb)(hc)hd", 6, "0221", 4, 10 + 12);
        form("w01(hat)hb t hc", 6, "2100", 0, 9);
    }

    private static void bothEnds() {
        Check.sentence("THE PASSIVE FORM: if the ends of both are reached, the versions come from a join of both ends");
        form("i0(ha)(ha)", 3, "3000", 2, 10);
        form("i0(ha)(hb)", 3, "2200", 4, 16);
        form("i0()(hd)", 2, "0002", 2, 9);
        form("hai0()()", 2, "1000", 0, 3);
        form("i0()()", 1, "0000", 0, 2);
    }

    private static void oneEnd() {
        Check.sentence("THE PASSIVE FORM: if just one is reached, they are those of this end");
        form("i0(ha t)(hb)ha", 5, "2100", 0, 6);
        form("i0(hb)(ha t)i0()(hb)", 6, "1300", 2, 14);
        form("i0(t)()", 2, "0000", 0, 3);
        form("i0()(t)hc", 3, "0010", 0, 4);
        form("y(i0(ha t)())(hb)", 5, "2200", 4, 5 + 1 + 12);
    }

    private static void noEnd() {
        Check.sentence("THE PASSIVE FORM: if none is, what stands after the choice in its block is not traversed");
        form("i0(t)(t)ha", 4, "0000", 0, 4);
        form("i0(ha t)(hb t)hc", 6, "1100", 0, 6);
        form("i0(i0(t)(t)ha)(hb)hc", 7, "0110", 0, 8);
        form("y(i0(t)(t)ha)(hb)hc", 7, "0110", 0, 7);
    }

    private static void tryWithoutThrow() {
        Check.sentence("THE PASSIVE FORM: without throws that this try catches the second block is not traversed");
        form("y()(ha)", 2, "0000", 0, 1);
        form("y(ha)(hb)hc", 4, "1010", 0, 3);
        form("y()(t)ha", 3, "1000", 0, 2);
        form("y(y(t)(ha))(hb)", 5, "1000", 0, 4);
        form("y(y()(t))(hb)ha", 5, "1000", 0, 3);
        form("y(y(ha)(t)hb)(hc)", 6, "1100", 0, 4);
    }

    private static void throwsOfSecondBlocks() {
        Check.sentence("THE PASSIVE FORM: throws traversed in it that this try catches");
        form("y(y(t)(ha t))(hb)", 6, "1100", 0, 6);
        form("y(y(t)(t)ha)(hb)hc", 7, "0110", 0, 6);
        form("y(i0(t)(y(t)(ha t)))(hb)", 8, "2100", 2, 9 + 6);
    }

    private static void throwsInLoops() {
        Check.sentence("THE PASSIVE FORM: the versions at a throw within a loop are those at the throw");
        form("y(w01(ha t))(i0()())", 5, "3000", 2, 16);
        form("y(w01(t ha)ha t)(hb)", 7, "3100", 2, 10 + 6);
        form("y(w01(t))(hb)", 4, "0200", 2, 14);
    }

    private static void joinOfOnePlace() {
        Check.sentence("THE PASSIVE FORM: a join of one place gives its versions");
        form("y(ha t)(hb)", 4, "1100", 0, 4);
        form("ha y(t)()i0()()", 4, "1000", 0, 5);
        form("y(ha hb t)(i0()(ha))", 6, "3100", 2, 1 + 3 + 2 + 1 + 6);
    }

    private static void joinOfSeveral() {
        Check.sentence("THE PASSIVE FORM: one equality for each other variable for each of the places");
        form("y(i0(ha t)(hb t))()", 6, "2200", 4, 7 + 12);
        form("y(i0(t)(i0(ha t)(t)))()", 7, "2000", 3, 9 + 9);
        form("y(i0(t)(i0(t)(i0(hd t)(t))))()", 9, "0002", 4, 12 + 12);
        form("hc y(i0(t)(t))()", 5, "0010", 0, 6);
        form("y(i0(ha t)(t))()y(i0(t)(t))()", 9, "2000", 2, 6 + 6 + 5);
        form("y(i0(y(t)())(t)t)(ha)", 7, "1000", 0, 8);
        form("y(i0(t)(y(hb t)(hc)))(i0()(ha))", 9, "3220", 8, 1 + 2 + 1 + 1 + 1 + 1 + 1 + 2 + 1 + 24);
        form("y(i0(ha t)()y(t)(y(t)(k1))t)(hb)", 11, "2100", 2, 13 + 6);
        form("y(i0(y(t)(k1))(ha t)t)(hb)", 9, "2100", 2, 11 + 6);
        form("y(w01(y(ha t)())i0(t)(hb t))(hc)", 10, "2210", 2, 1 + 5 + 3 + 2 + 1 + 2 + 1 + 6);
    }

    private static void sameVersionKept() {
        Check.sentence("THE PASSIVE FORM: a variable with the same version at all of them keeps it");
        form("ha i0(hb)()i0()()", 4, "1200", 2, 1 + 2 + 1 + 2 + 6);
        form("hahbhchd i0(hd)(hd)", 7, "1114", 2, 4 + 4 + 6);
        form("y(i0(t)(ha t))(i0()())", 6, "2000", 2, 8 + 6);
    }

    // ---- promise 18

    private static void copiedEmpty() {
        Check.sentence("promise 18: an empty sequence has the size n; the program with n = 1 and x = 1");
        copied("", 0, 1);
        copied("t", 1, 1);
        copied("i0()()", 1, 5);
        copied("y()()", 1, 1);
        copied("y()()k1", 2, 3);
        copied("w01()", 1, 3 + 2 + 1 + 1 + 1);
    }

    private static void copiedThrow() {
        Check.sentence("promise 18: throw: x; instead of x, the size of the second block with n and x");
        copied("t k1 k1", 3, 1);
        copied("k1 t k1", 3, 3);
        copied("y(t)(k1)", 3, 3);
        copied("y(t k1)(k1 k1)", 5, 5);
        copied("y(t)(t)k1", 4, 1);
        copied("y(y(t)(t))(k1)", 5, 3);
        copied("y(y(t)(k1 t))(k1)", 6, 5);
        copied("y(i0(t)())(k!a)ha", 5, 2 + (2 + 3) + 2 + 1);
        copied("y(w01(t))(k1)", 4, 3 + 2 + 3 + 1 + 1);
        copied("y(t)(k1)t", 4, 3);
        copied("i0(t)(k1)hb", 4, 2 + 1 + 4 + 1);
    }

    private static void copiedLoop() {
        Check.sentence("promise 18: block with |I| and x");
        copied("w!0+11()", 1, 9 + 4 + 3 + 1 + 1);
        copied("w01(k1)", 2, 3 + 2 + 3 + 1 + 1);
        copied("w01(t)k1", 3, 3 + 2 + 1 + 3 + 1);
        copied("w0!1(w01(ha))hb", 4, 6 + 2 + (3 + 2 + 2 + 2 + 1) + 2 + 1);
    }

    private static void copiedStatements() {
        Check.sentence("promise 18: the sizes of the statements");
        copied("a+b1", 1, 5);
        copied("k!a", 1, 4);
        copied("s!a", 1, 4);
        copied("ha", 1, 2);
        copied("p!ab=b1", 1, 1 + 2 + 3 + 1);
        copied("i!a(k1)(hb)hc", 4, 4 + 4 + 3 + 1);
    }

    /** No text of 120 characters gives a size that a long could not hold: these are near the greatest. */
    private static void copiedGreatest() {
        Check.sentence("promise 18: the greatest sizes");
        copied("i0()()".repeat(20), 20, 4194301);
        PassiveChecks x = Check.with("w00(" + "i0()()".repeat(19) + ")", 20);
        Check.invariant(x, 0, "!".repeat(119) + "1", 120);
        Check.due("copied()", x.copied(), 360 + 2 + (524288L * 123 - 3) + 1 + 1);
    }

    private static void askedAgain() {
        Check.sentence("promises 15 to 18: the same when asked again, and of another program");
        PassiveChecks x = Check.with("y(i0(ha t)(hb t))(w01(hc))", 8);
        for (int again = 0; again < 3; again++) {
            Check.due("equalities()", x.equalities(), 4);
            Check.due("versions(2)", x.versions(2), 2);
            Check.due("linear()", x.linear(), 13 + 12);
            Check.due("copied()", x.copied(), 2 + 2 * (1 + (3 + 2 + 2 + 1 + 1)) + 1);
        }
        Check.change(x, "i0(hd)()", 2);
        Check.due("equalities()", x.equalities(), 2);
        Check.due("versions(2)", x.versions(2), 0);
        Check.due("undo()", x.undo(), 1);
        Check.due("versions(2)", x.versions(2), 2);
    }

    public static void main(String[] args) {
        versionRange();
        formOfNothing();
        greatestForms();
        linearTerms();
        linearInvariant();
        linearThrow();
        newVersions();
        behindThrow();
        loops();
        loopNotReachedToItsEnd();
        bothEnds();
        oneEnd();
        noEnd();
        tryWithoutThrow();
        throwsOfSecondBlocks();
        throwsInLoops();
        joinOfOnePlace();
        joinOfSeveral();
        sameVersionKept();
        copiedEmpty();
        copiedThrow();
        copiedLoop();
        copiedStatements();
        copiedGreatest();
        askedAgain();
        Check.finish();
    }
}
