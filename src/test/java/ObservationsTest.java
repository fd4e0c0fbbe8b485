/** Promises 19 to 25: observations, saved programs and counts. */
public final class ObservationsTest {
    private static final int BAD = -1, STATE = -2, FULL = -3, NONE = -9;
    private static final int[] BEYOND = {-1, 2, Integer.MIN_VALUE, Integer.MAX_VALUE};

    private static void starts(PassiveChecks x, int many, int lowest, int asked) {
        Check.due("starts(0)", x.starts(0), many);
        Check.due("starts(1)", x.starts(1), lowest);
        Check.due("ask()", x.ask(), asked);
    }

    private static void seeing() {
        PassiveChecks x = Check.with("ka", 1);
        for (int beyond : BEYOND) {
            Check.due("sees(0, beyond)", x.sees(0, beyond), BAD);
            Check.due("starts(beyond)", x.starts(beyond), BAD);
        }
        Check.due("sees(-1, 0)", x.sees(-1, 0), BAD);
        Check.due("sees(18, 0)", x.sees(18, 0), BAD);
        Check.due("count(3)", x.count(3), 0);
        Check.due("sees(0, 1)", x.sees(0, 1), 1);
        starts(x, 64, 0, 1);
        Check.due("sees(16, 1)", x.sees(16, 1), 2);
        starts(x, 0, NONE, NONE);
        Check.due("forget()", x.forget(), 2);
        Check.due("forget()", x.forget(), 0);
        Check.due("sees(0, 0)", x.sees(0, 0), 1);
        starts(x, 192, 64, 1);
        for (int n = 2; n <= 6; n++) {
            Check.due("sees(17, 0)", x.sees(17, 0), n);
        }
        Check.due("sees(17, 1)", x.sees(17, 1), FULL);
        Check.due("sees(18, 1)", x.sees(18, 1), BAD);
        Check.due("sees(0, 2)", x.sees(0, 2), BAD);
        Check.due("count(3)", x.count(3), 6);
        starts(x, 192, 64, 1);
        Check.due("forget()", x.forget(), 6);
        starts(x, 256, 0, 0);
    }

    private static void starting() {
        PassiveChecks x = Check.with("ha ka", 2);
        x.sees(0, 1);
        x.sees(16, 1);
        starts(x, 256, 0, 0);
        x.forget();
        x.sees(16, 0);
        starts(x, 0, NONE, NONE);
        x.forget();
        x.sees(15, 1);
        starts(x, 0, NONE, NONE);
        x.forget();
        x.sees(15, 0);
        starts(x, 256, 0, 0);
        Check.change(x, "s&&=a1=b2&=c3=d0", 1);
        starts(x, 256, 0, 0);
        x.sees(16, 1);
        starts(x, 1, 108, NONE);
        Check.change(x, "s&&=a1=b2=d0", 1);
        starts(x, 4, 96, 2);
        Check.change(x, "s|&&=a1=b2&=c3=d0 &&=a1=b3&=c3=d1", 1);
        starts(x, 2, 108, 1);
        Check.change(x, "s&!a&!c&!d<b2", 1);
        starts(x, 2, 0, 1);
        x.forget();
        Check.change(x, "i<a2(t)(kb)", 3);
        x.sees(17, 1);
        starts(x, 128, 0, 1);
        x.sees(0, 1);
        starts(x, 0, NONE, NONE);
        x.forget();
        x.sees(17, 0);
        starts(x, 128, 128, 1);
        x.sees(0, 1);
        starts(x, 32, 128, 2);
        x.forget();
        Check.change(x, "w0 0()w!a 1()", 2);
        x.sees(0, 0);
        x.sees(16, 1);
        starts(x, 192, 64, 1);
    }

    /** A run of calls in which each change of the program must be seen by what is asked then. */
    private static void afterChanges() {
        PassiveChecks x = Check.with("ka", 1);
        x.sees(0, 1);
        Check.due("ask()", x.ask(), 1);
        starts(x, 64, 0, 1);
        Check.change(x, "k<b2", 1);
        starts(x, 128, 32, 0);
        Check.due("undo()", x.undo(), 1);
        starts(x, 64, 0, 1);
        Check.due("keep(1)", x.keep(1), 1);
        Check.change(x, "w1 1()", 1);
        starts(x, 0, NONE, NONE);
        Check.due("wrong(1, 0, 0)", x.wrong(1, 0, 0), 0);
        Check.type(x, "a");
        Check.due("invariant(0)", x.invariant(0), 1);
        Check.due("wrong(1, 0, 0)", x.wrong(1, 0, 0), 64);
        Check.due("keeps(0, 0)", x.keeps(0, 0), 192);
        Check.due("undo()", x.undo(), 2);
        Check.due("wrong(1, 0, 0)", x.wrong(1, 0, 0), 0);
        Check.due("keeps(0, 0)", x.keeps(0, 0), 256);
        Check.due("back(1)", x.back(1), 1);
        starts(x, 64, 0, 1);
        Check.due("undo()", x.undo(), STATE);
        Check.due("wrong(1, 0, 0)", x.wrong(1, 0, 0), 64);
    }

    private static void saving() {
        PassiveChecks x = Check.with("ka hb", 2);
        for (int beyond : BEYOND) {
            Check.due("keep(beyond)", x.keep(beyond), BAD);
            Check.due("back(beyond)", x.back(beyond), BAD);
        }
        Check.due("back(0)", x.back(0), STATE);
        Check.due("keep(0)", x.keep(0), 2);
        Check.due("back(1)", x.back(1), STATE);
        Check.due("count(5)", x.count(5), 1);
        Check.change(x, "i1(t)()", 2);
        Check.change(x, "t", 1);
        Check.due("keep(1)", x.keep(1), 1);
        Check.due("back(0)", x.back(0), 2);
        Check.due("count(5)", x.count(5), 0);
        Check.due("told(2)", x.told(2), 'h');
        Check.change(x, "", 0);
        Check.due("back(1)", x.back(1), 1);
        Check.due("told(0)", x.told(0), 't');
        Check.due("back(0)", x.back(0), 2);
        Check.change(x, "a1 a2 a3", 3);
        Check.due("keep(0)", x.keep(0), 3);
        Check.due("undo()", x.undo(), 0);
        Check.due("back(0)", x.back(0), 3);
        Check.due("back(0)", x.back(0), 3);
        Check.due("keep(1)", x.keep(1), 3);
        Check.due("versions(0)", x.versions(0), 3);
        PassiveChecks y = new PassiveChecks();
        Check.due("keep(1)", y.keep(1), 0);
        Check.change(y, "ha", 1);
        Check.type(y, "kb");
        Check.due("sees(0, 1)", y.sees(0, 1), 1);
        Check.due("back(1)", y.back(1), 0);
        Check.due("count(4)", y.count(4), 2);
        Check.due("count(3)", y.count(3), 1);
        Check.due("count(5)", y.count(5), 0);
    }

    private static void counting() {
        PassiveChecks x = Check.with("k1 w1 1(y(pa b1)(t)) w0 0()", 6);
        Check.type(x, "ab ");
        x.sees(3, 0);
        x.sees(3, 1);
        int[] counts = {6, 6, 2, 2, 3, 1};
        for (int what = 0; what < 6; what++) {
            Check.due("count(" + what + ")", x.count(what), counts[what]);
        }
        Check.due("count(-1)", x.count(-1), BAD);
        Check.due("count(6)", x.count(6), BAD);
        Check.due("count(MIN)", x.count(Integer.MIN_VALUE), BAD);
        Check.due("count(MAX)", x.count(Integer.MAX_VALUE), BAD);
    }

    public static void main(String[] args) {
        seeing();
        starting();
        afterChanges();
        saving();
        counting();
        Check.finish();
    }
}
