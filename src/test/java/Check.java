/** Counts the calls whose answer is not the one that is due, and tells each of them. */
final class Check {
    private static final int TOLD = 50;

    private static String sentence = "";
    private static String where = "";
    private static int calls;
    private static int wrong;

    private Check() { }

    /** The sentence of the document that the calls from here on test; it is told with each wrong answer. */
    static void sentence(String words) {
        sentence = words + ": ";
        where = "";
    }

    static void in(String place) {
        where = place;
    }

    static void due(String call, long got, long want) {
        calls++;
        if (got == want) {
            return;
        }
        wrong++;
        if (wrong <= TOLD) {
            System.out.println(sentence + where + ": " + call + " answered " + got + ", due is " + want);
        }
    }

    /** Types a text, which is added to what is typed already. */
    static void type(PassiveChecks x, String text) {
        int had = x.count(4);
        for (int i = 0; i < text.length(); i++) {
            due("type(" + (int) text.charAt(i) + ")", x.type(text.charAt(i)), had + i + 1);
        }
    }

    /** A new object with a program. */
    static PassiveChecks with(String program, int statements) {
        PassiveChecks x = new PassiveChecks();
        change(x, program, statements);
        return x;
    }

    static void change(PassiveChecks x, String program, int answer) {
        in(program);
        type(x, program);
        due("program()", x.program(), answer);
    }

    /** Types a term, and makes it the invariant of a loop. */
    static void invariant(PassiveChecks x, int loop, String term, int answer) {
        type(x, term);
        due("invariant(" + loop + ") of " + term, x.invariant(loop), answer);
    }

    /** That the present program is this text. */
    static void told(PassiveChecks x, String text) {
        due("told(-1) for " + text, x.told(-1), text.length());
        for (int i = 0; i < text.length(); i++) {
            due("told(" + i + ") for " + text, x.told(i), text.charAt(i));
        }
    }

    static void finish() {
        System.out.println((calls - wrong) + " answers as due, " + wrong + " not");
        if (wrong > 0) {
            System.exit(1);
        }
    }
}
