import java.util.ArrayList;
import java.util.List;

/**
 * ERRORS: a call that returns an error changes nothing. Each refused call is made on one of two objects that were
 * made alike; then both must answer all the same: what is asked, and what changes, undoing and restoring lead to.
 */
public final class RefusalsTest {
    private static final int BAD = -1, STATE = -2, FULL = -3, NONE = -9;
    private static final int LOW = Integer.MIN_VALUE, HIGH = Integer.MAX_VALUE;
    private static final int[] NO_FLAGS = {-1, 2, LOW, HIGH};
    private static final int LEAST_ERROR = -130, GREATEST_ERROR = -10;

    private interface Call {
        int on(PassiveChecks x);
    }

    private record Refused(String name, Call call, int due) { }

    private enum Kind { FRESH, RICH, FULL, RESTORED }

    private static void typeQuietly(PassiveChecks x, String text) {
        for (int i = 0; i < text.length(); i++) {
            x.type(text.charAt(i));
        }
    }

    private static void program(PassiveChecks x, String text) {
        typeQuietly(x, text);
        x.program();
    }

    /** Two loops, five checks, three changes, two observations, one place saved, and a text with an error. */
    private static void makeRich(PassiveChecks x) {
        program(x, "ka");
        x.keep(1);
        program(x, "kaw<b2 1(b+b1)y(w1 c(ha i=a1(t)()))(hd)");
        typeQuietly(x, "!=d3");
        x.invariant(1);
        x.sees(0, 0);
        x.sees(16, 1);
        typeQuietly(x, "t +");
    }

    /** Everything at its limit: 16 checks, four loops, seven changes, six observations, both places, a full text. */
    private static void makeFull(PassiveChecks x) {
        x.keep(0);
        program(x, "hb");
        x.keep(1);
        for (int n = 1; n <= 5; n++) {
            program(x, "t".repeat(n));
        }
        program(x, "w00(ha)w00(w00())w0a()k1k1k1kbk1k1p1c1k2");
        for (int n = 0; n < 6; n++) {
            x.sees(17, 0);
        }
        typeQuietly(x, " ".repeat(119) + "!");
    }

    private static void makeRestored(PassiveChecks x) {
        program(x, "w1a(p1a1)");
        x.keep(0);
        program(x, "t");
        x.sees(0, 1);
        typeQuietly(x, "t)");
        x.back(0);
    }

    private static PassiveChecks made(Kind kind) {
        PassiveChecks x = new PassiveChecks();
        switch (kind) {
            case FRESH -> { }
            case RICH -> makeRich(x);
            case FULL -> makeFull(x);
            default -> makeRestored(x);
        }
        return x;
    }

    // ---- what an object answers

    private static void addQueries(List<Long> answers, PassiveChecks x) {
        for (int what = 0; what < 6; what++) {
            answers.add((long) x.count(what));
        }
        int length = x.told(-1);
        answers.add((long) length);
        for (int k = 0; k < length; k++) {
            answers.add((long) x.told(k));
        }
        int checks = x.count(1);
        for (int check = 0; check < checks; check++) {
            answers.add((long) x.kind(check));
            answers.add((long) x.wrong(0, check, 0));
            answers.add((long) x.wrong(1, check, 0));
        }
        int loops = x.count(2);
        for (int l = 0; l < loops; l++) {
            answers.add((long) x.loop(l, 1));
            answers.add((long) x.loop(l, 2));
            answers.add((long) x.keeps(l, 0));
        }
        for (int v = 0; v < 4; v++) {
            answers.add((long) x.versions(v));
        }
        answers.add(x.copied());
        answers.add((long) x.linear());
        answers.add((long) x.ends(0, 77, 0, -1));
        answers.add((long) x.starts(0));
        answers.add((long) x.ask());
    }

    /** Last of all, since it changes the object: the text read as a term and a program, undoing, restoring. */
    private static void addChanges(List<Long> answers, PassiveChecks x) {
        answers.add((long) x.invariant(0));
        answers.add((long) x.program());
        answers.add((long) x.type('a'));
        answers.add((long) x.invariant(0));
        answers.add((long) x.program());
        answers.add((long) x.clear());
        for (int n = 0; n < 8; n++) {
            answers.add((long) x.undo());
            answers.add((long) x.count(0));
            answers.add(x.copied());
        }
        for (int image = 0; image < 2; image++) {
            answers.add((long) x.back(image));
            answers.add((long) x.told(-1));
            answers.add((long) x.told(0));
            answers.add((long) x.starts(0));
            answers.add((long) x.count(5));
        }
        answers.add((long) x.forget());
    }

    private static List<Long> answers(PassiveChecks x) {
        List<Long> answers = new ArrayList<>();
        addQueries(answers, x);
        addChanges(answers, x);
        return answers;
    }

    private static void refused(Kind kind, List<Refused> calls) {
        List<Long> due = answers(made(kind));
        for (Refused refused : calls) {
            Check.in(kind + "");
            PassiveChecks x = made(kind);
            Check.due(refused.name, refused.call.on(x), refused.due);
            Check.due(refused.name + " again", refused.call.on(x), refused.due);
            List<Long> got = answers(x);
            Check.due("answers after " + refused.name, got.size(), due.size());
            for (int i = 0; i < due.size() && i < got.size(); i++) {
                Check.due("answer " + i + " after " + refused.name, got.get(i), due.get(i));
            }
        }
    }

    // ---- the refused calls

    private static void addBad(List<Refused> calls, String name, Call call) {
        calls.add(new Refused(name, call, BAD));
    }

    private static void addBadFlags(List<Refused> calls) {
        for (int flag : NO_FLAGS) {
            addBad(calls, "wrong(" + flag + ", 0, 0)", x -> x.wrong(flag, 0, 0));
            addBad(calls, "wrong(0, 0, " + flag + ")", x -> x.wrong(0, 0, flag));
            addBad(calls, "from(" + flag + ", 0, 0)", x -> x.from(flag, 0, 0));
            addBad(calls, "ends(" + flag + ", 0, 0, 0)", x -> x.ends(flag, 0, 0, 0));
            addBad(calls, "ends(0, 0, " + flag + ", 0)", x -> x.ends(0, 0, flag, 0));
            addBad(calls, "keeps(0, " + flag + ")", x -> x.keeps(0, flag));
            addBad(calls, "sees(0, " + flag + ")", x -> x.sees(0, flag));
            addBad(calls, "starts(" + flag + ")", x -> x.starts(flag));
            addBad(calls, "keep(" + flag + ")", x -> x.keep(flag));
            addBad(calls, "back(" + flag + ")", x -> x.back(flag));
        }
    }

    private static void addBadNumbers(List<Refused> calls) {
        for (int number : new int[] {-1, 16, 17, LOW, HIGH}) {
            addBad(calls, "invariant(" + number + ")", x -> x.invariant(number));
            addBad(calls, "kind(" + number + ")", x -> x.kind(number));
            addBad(calls, "loop(" + number + ", 0)", x -> x.loop(number, 0));
            addBad(calls, "loop(0, " + number + ")", x -> x.loop(0, number));
            addBad(calls, "wrong(0, " + number + ", 0)", x -> x.wrong(0, number, 0));
            addBad(calls, "spurious(" + number + ")", x -> x.spurious(number));
            addBad(calls, "from(0, 0, " + number + ")", x -> x.from(0, 0, number));
            addBad(calls, "keeps(" + number + ", 0)", x -> x.keeps(number, 0));
            addBad(calls, "versions(" + number + ")", x -> x.versions(number));
            addBad(calls, "count(" + number + ")", x -> x.count(number));
        }
        for (int number : new int[] {-1, 256, LOW, HIGH}) {
            addBad(calls, "type(" + number + ")", x -> x.type(number));
            addBad(calls, "from(0, " + number + ", 0)", x -> x.from(0, number, 0));
            addBad(calls, "ends(0, " + number + ", 0, 0)", x -> x.ends(0, number, 0, 0));
        }
        for (int number : new int[] {-2, -3, LOW}) {
            addBad(calls, "told(" + number + ")", x -> x.told(number));
            addBad(calls, "ends(0, 0, 0, " + number + ")", x -> x.ends(0, 0, 0, number));
        }
        for (int what : new int[] {-1, 18, LOW, HIGH}) {
            addBad(calls, "sees(" + what + ", 0)", x -> x.sees(what, 0));
        }
    }

    private static List<Refused> badCalls() {
        List<Refused> calls = new ArrayList<>();
        addBadFlags(calls);
        addBadNumbers(calls);
        return calls;
    }

    private static void ofNewObject() {
        Check.sentence("ERRORS: a call that returns an error changes nothing, of a new object");
        List<Refused> calls = badCalls();
        calls.add(new Refused("undo()", PassiveChecks::undo, STATE));
        calls.add(new Refused("back(0)", x -> x.back(0), STATE));
        calls.add(new Refused("back(1)", x -> x.back(1), STATE));
        addBad(calls, "invariant(0)", x -> x.invariant(0));
        addBad(calls, "kind(0)", x -> x.kind(0));
        addBad(calls, "loop(0, 0)", x -> x.loop(0, 0));
        addBad(calls, "wrong(0, 0, 0)", x -> x.wrong(0, 0, 0));
        addBad(calls, "spurious(0)", x -> x.spurious(0));
        addBad(calls, "keeps(0, 0)", x -> x.keeps(0, 0));
        refused(Kind.FRESH, calls);
    }

    private static void ofRichObject() {
        Check.sentence("ERRORS: a call that returns an error changes nothing, of an object with all it can have");
        List<Refused> calls = badCalls();
        calls.add(new Refused("program()", PassiveChecks::program, -12));
        calls.add(new Refused("invariant(0)", x -> x.invariant(0), -10));
        calls.add(new Refused("invariant(1)", x -> x.invariant(1), -10));
        calls.add(new Refused("back(0)", x -> x.back(0), STATE));
        addBad(calls, "invariant(2)", x -> x.invariant(2));
        addBad(calls, "kind(5)", x -> x.kind(5));
        addBad(calls, "wrong(1, 5, 1)", x -> x.wrong(1, 5, 1));
        addBad(calls, "spurious(5)", x -> x.spurious(5));
        addBad(calls, "loop(2, 2)", x -> x.loop(2, 2));
        addBad(calls, "keeps(2, 1)", x -> x.keeps(2, 1));
        refused(Kind.RICH, calls);
    }

    private static void ofFullObject() {
        Check.sentence("ERRORS: a call that returns an error changes nothing, of a full object");
        List<Refused> calls = badCalls();
        calls.add(new Refused("type('a')", x -> x.type('a'), FULL));
        calls.add(new Refused("type(0)", x -> x.type(0), FULL));
        calls.add(new Refused("type(255)", x -> x.type(255), FULL));
        calls.add(new Refused("sees(0, 1)", x -> x.sees(0, 1), FULL));
        calls.add(new Refused("sees(17, 0)", x -> x.sees(17, 0), FULL));
        calls.add(new Refused("program()", PassiveChecks::program, GREATEST_ERROR - 119));
        calls.add(new Refused("invariant(3)", x -> x.invariant(3), LEAST_ERROR));
        addBad(calls, "invariant(4)", x -> x.invariant(4));
        addBad(calls, "loop(4, 0)", x -> x.loop(4, 0));
        addBad(calls, "keeps(4, 0)", x -> x.keeps(4, 0));
        refused(Kind.FULL, calls);
    }

    private static void ofRestoredObject() {
        Check.sentence("ERRORS: a call that returns an error changes nothing, of a restored object");
        List<Refused> calls = badCalls();
        calls.add(new Refused("undo()", PassiveChecks::undo, STATE));
        calls.add(new Refused("back(1)", x -> x.back(1), STATE));
        calls.add(new Refused("program()", PassiveChecks::program, -11));
        calls.add(new Refused("invariant(0)", x -> x.invariant(0), -10));
        addBad(calls, "invariant(1)", x -> x.invariant(1));
        refused(Kind.RESTORED, calls);
    }

    /** What is asked changes nothing either, though the object may keep what it has found. */
    private static void askingChangesNothing() {
        Check.sentence("promises 7 to 18, 21, 22 and 25: what is asked twice is answered twice");
        for (Kind kind : Kind.values()) {
            Check.in(kind + "");
            PassiveChecks x = made(kind);
            List<Long> first = new ArrayList<>();
            addQueries(first, x);
            List<Long> second = new ArrayList<>();
            addQueries(second, x);
            for (int i = 0; i < first.size(); i++) {
                Check.due("answer " + i, second.get(i), first.get(i));
            }
        }
    }

    private static void noneOnlyWithoutError() {
        Check.sentence("ERRORS: NONE is no error; it is returned only if no error applies");
        PassiveChecks x = Check.with("s0", 1);
        Check.due("told(2)", x.told(2), NONE);
        Check.due("told(-2)", x.told(-2), BAD);
        Check.due("from(0, 0, 0)", x.from(0, 0, 0), NONE);
        Check.due("from(2, 0, 0)", x.from(2, 0, 0), BAD);
        Check.due("from(0, 256, 0)", x.from(0, 256, 0), BAD);
        Check.due("ends(0, 0, 0, 0)", x.ends(0, 0, 0, 0), NONE);
        Check.due("ends(0, 0, 2, 0)", x.ends(0, 0, 2, 0), BAD);
        Check.due("sees(16, 1)", x.sees(16, 1), 1);
        Check.due("starts(1)", x.starts(1), NONE);
        Check.due("starts(2)", x.starts(2), BAD);
        Check.due("ask()", x.ask(), NONE);
        Check.change(x, "k1", 1);
        Check.due("wrong(0, 0, 1)", x.wrong(0, 0, 1), NONE);
        Check.due("wrong(0, 1, 1)", x.wrong(0, 1, 1), BAD);
        Check.due("wrong(0, 0, 2)", x.wrong(0, 0, 2), BAD);
    }

    private static void numberedFromZero() {
        Check.sentence("ERRORS: everything is numbered from 0");
        PassiveChecks x = Check.with("w0 0(ka)", 2);
        Check.due("told(0)", x.told(0), 'w');
        Check.due("loop(0, 0)", x.loop(0, 0), 0);
        Check.due("kind(0)", x.kind(0), 1);
        Check.due("kind(2)", x.kind(2), 0);
        Check.due("kind(3)", x.kind(3), BAD);
        Check.due("loop(1, 0)", x.loop(1, 0), BAD);
        Check.due("ends(0, 7, 0, 0)", x.ends(0, 7, 0, 0), 7);
        Check.due("ends(0, 7, 0, 1)", x.ends(0, 7, 0, 1), NONE);
        Check.due("keep(0)", x.keep(0), 2);
        Check.change(x, "da", 1);
        Check.due("versions(3)", x.versions(3), 1);
        Check.due("program() with an error at the first character", errorAtFirst(x), -10);
    }

    private static int errorAtFirst(PassiveChecks x) {
        Check.type(x, "1");
        return x.program();
    }

    public static void main(String[] args) {
        ofNewObject();
        ofRichObject();
        ofFullObject();
        ofRestoredObject();
        askingChangesNothing();
        noneOnlyWithoutError();
        numberedFromZero();
        Check.finish();
    }
}
