/** The five examples of the document's description, call by call. */
public final class ExamplesTest {
    private static void typed(PassiveChecks x, int... letters) {
        for (int i = 0; i < letters.length; i++) {
            Check.due("type(" + letters[i] + ")", x.type(letters[i]), i + 1);
        }
    }

    private static void invariantTooStrong() {
        Check.in("example 1");
        PassiveChecks x = new PassiveChecks();
        typed(x, 119, 60, 97, 51, 60, 97, 50, 40, 97, 43, 97, 49, 41);
        Check.due("program()", x.program(), 2);
        Check.due("wrong(1, 1, 0)", x.wrong(1, 1, 0), 128);
        Check.due("spurious(1)", x.spurious(1), 128);
    }

    private static void caughtThrow() {
        Check.in("example 2");
        PassiveChecks x = new PassiveChecks();
        typed(x, 121, 40, 116, 41, 40, 107, 98, 41);
        Check.due("program()", x.program(), 3);
        Check.due("wrong(0, 0, 0)", x.wrong(0, 0, 0), 64);
        Check.due("from(0, 0, 2)", x.from(0, 0, 2), 0);
        Check.due("equalities()", x.equalities(), 0);
        Check.due("linear()", x.linear(), 4);
        Check.due("copied()", x.copied(), 3);
        Check.due("told(3)", x.told(3), 41);
        Check.due("sees(0, 1)", x.sees(0, 1), 1);
    }

    private static void errorAndUndo() {
        Check.in("example 3");
        PassiveChecks x = new PassiveChecks();
        typed(x, 107, 97, 33, 119);
        Check.due("program()", x.program(), -12);
        Check.due("clear()", x.clear(), 4);
        typed(x, 104, 97, 107, 97);
        Check.due("program()", x.program(), 2);
        Check.due("wrong(0, 0, 0)", x.wrong(0, 0, 0), 256);
        Check.due("from(0, 9, 1)", x.from(0, 9, 1), 1);
        Check.due("ends(0, 0, 0, 1)", x.ends(0, 0, 0, 1), 128);
        Check.due("undo()", x.undo(), 0);
        Check.due("undo()", x.undo(), -2);
    }

    private static void throwOnOneSide() {
        Check.in("example 4");
        PassiveChecks x = new PassiveChecks();
        typed(x, 105, 61, 97, 98, 40, 99, 49, 41, 40, 116, 41);
        Check.due("program()", x.program(), 3);
        Check.due("equalities()", x.equalities(), 0);
        Check.due("linear()", x.linear(), 7);
        Check.due("copied()", x.copied(), 11);
        Check.due("ends(0, 0, 1, -1)", x.ends(0, 0, 1, -1), 0);
    }

    private static void endlessLoop() {
        Check.in("example 5");
        PassiveChecks x = new PassiveChecks();
        typed(x, 119, 49, 97, 40, 98, 50, 41);
        Check.due("program()", x.program(), 2);
        Check.due("from(0, 0, 1)", x.from(0, 0, 1), 0);
        Check.due("wrong(1, 0, 1)", x.wrong(1, 0, 1), 0);
        Check.due("keeps(0, 0)", x.keeps(0, 0), 192);
        typed(x, 61, 99, 51);
        Check.due("invariant(0)", x.invariant(0), 3);
        Check.due("loop(0, 2)", x.loop(0, 2), 64);
    }

    public static void main(String[] args) {
        invariantTooStrong();
        caughtThrow();
        errorAndUndo();
        throwOnOneSide();
        endlessLoop();
        Check.finish();
    }
}
