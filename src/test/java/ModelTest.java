/** Random runs of calls, the same on a PassiveChecks and on the Model; the same runs each time. */
public final class ModelTest {
    private static final int RUNS = 600;
    private static final int CALLS = 512;
    private static final int LONGEST = 120;

    private long seed;
    private int budget;
    private int loopsOpen;

    private ModelTest(long first) {
        seed = first;
    }

    private int below(int bound) {
        seed = seed * 6364136223846793005L + 1442695040888963407L;
        return (int) ((seed >>> 33) % bound);
    }

    private char pick(String signs) {
        return signs.charAt(below(signs.length()));
    }

    // ---- texts

    private String term(int deep) {
        int what = below(10);
        if (deep == 0 || what < 4) {
            return "" + pick("0123abcdabcd");
        }
        if (what == 4) {
            return "!" + term(deep - 1);
        }
        return pick("+-=<&|==<+") + term(deep - 1) + term(deep - 1);
    }

    private String block(int deep) {
        return "(" + sequence(deep, below(4)) + ")";
    }

    private String sequence(int deep, int many) {
        StringBuilder text = new StringBuilder();
        for (int i = 0; i < many && budget > 0; i++) {
            text.append(statement(deep));
        }
        return text.toString();
    }

    private String statement(int deep) {
        budget--;
        String text;
        switch (deep == 0 ? below(8) : below(14)) {
            case 0, 1, 2:
                return pick("abcd") + term(2);
            case 3:
                return "h" + pick("abcd");
            case 4, 5:
                return (below(3) > 0 ? "k" : "s") + term(2);
            case 6:
                return "p" + term(1) + pick("abcd") + term(2);
            case 7:
                return below(2) == 0 ? "t" : pick("abcd") + "+" + pick("abcd") + "1";
            case 8, 9, 10:
                return "i" + term(1) + block(deep - 1) + block(deep - 1);
            case 11, 12:
                return "y" + block(deep - 1) + block(deep - 1);
            default:
                if (loopsOpen == 2 && below(20) > 0) {
                    return "hb";
                }
                loopsOpen++;
                text = "w" + term(1) + term(2) + block(deep - 1);
                loopsOpen--;
                return text;
        }
    }

    private String damaged(String text) {
        StringBuilder changed = new StringBuilder(text);
        for (int n = below(12); n > 0; n--) {
            changed.insert(below(changed.length() + 1), ' ');
        }
        if (below(6) == 0 && changed.length() > 0) {
            int at = below(changed.length());
            if (below(3) == 0) {
                changed.setLength(at);
            } else {
                changed.setCharAt(at, pick("abcd0123()+=!kwptyish 4e"));
            }
        }
        return changed.toString();
    }

    /** Digits that count up with carry, so that loops and rounds go through many states. */
    private String counter() {
        String inner = pick("abcd") + "";
        String text = inner + "+" + inner + "1";
        for (int n = below(4); n > 0; n--) {
            char v = pick("abcd");
            text = v + "+" + v + "1i" + v + "()(" + text + ")";
        }
        return "w" + (below(2) == 0 ? "1" : term(1)) + term(2) + "(" + text + (below(3) == 0 ? "k" + term(2) : "") + ")";
    }

    private String programText() {
        int kind = below(12);
        if (kind == 0) {
            return damaged(counter() + sequence(1, 2));
        }
        if (kind == 1) {
            budget = 30;
            return damaged("y".repeat(1 + below(3)) + "(" + sequence(2, 5) + ")(" + sequence(2, 3) + ")");
        }
        if (kind == 2) {
            return damaged("k1".repeat(12 + below(6)) + pick("kpw") + "01" + pick("a(") + "1)()");
        }
        budget = 6 + below(40);
        return damaged(sequence(1 + below(5), 1 + below(10)));
    }

    // ---- calls

    private int argument(int low, int high) {
        int what = below(40);
        if (what == 0) {
            return low - 1 - below(3);
        }
        if (what == 1) {
            return high + 1 + below(3);
        }
        if (what == 2) {
            return below(2) == 0 ? Integer.MIN_VALUE : Integer.MAX_VALUE;
        }
        return low + below(high - low + 1);
    }

    private int typeAll(PassiveChecks x, Model m, String text) {
        int calls = 0;
        for (int i = 0; i < text.length(); i++) {
            int letter = below(200) == 0 ? argument(0, 255) : text.charAt(i);
            Check.due("type(" + letter + ")", x.type(letter), m.type(letter));
            calls++;
        }
        return calls;
    }

    private int change(PassiveChecks x, Model m) {
        if (below(3) > 0) {
            Check.due("clear()", x.clear(), m.clear());
        }
        if (below(3) == 0) {
            int calls = typeAll(x, m, damaged(term(1 + below(4))));
            int loop = below(3) == 0 ? argument(0, 3) : 0;
            Check.due("invariant(" + loop + ")", x.invariant(loop), m.invariant(loop));
            return calls + 2;
        }
        String text = programText();
        if (text.length() > LONGEST && below(10) > 0) {
            return 1;
        }
        int calls = typeAll(x, m, text);
        Check.due("program() of " + text, x.program(), m.program());
        return calls + 2;
    }

    private void query(PassiveChecks x, Model m) {
        int a = argument(0, 1);
        int b = argument(0, 255);
        int c = argument(0, Math.max(0, m.count(1) - 1));
        int l = argument(0, Math.max(0, m.count(2) - 1));
        int w = argument(0, 1);
        switch (below(26)) {
            case 0 -> Check.due("told(" + b + ")", x.told(b), m.told(b));
            case 1 -> Check.due("told(-1)", x.told(-1), m.told(-1));
            case 2 -> Check.due("kind(" + c + ")", x.kind(c), m.kind(c));
            case 3 -> {
                int what = argument(0, 2);
                Check.due("loop(" + l + ", " + what + ")", x.loop(l, what), m.loop(l, what));
            }
            case 4, 5, 6 -> Check.due("wrong(" + a + ", " + c + ", " + w + ")", x.wrong(a, c, w), m.wrong(a, c, w));
            case 7 -> Check.due("spurious(" + c + ")", x.spurious(c), m.spurious(c));
            case 8, 9 -> {
                int what = argument(0, 2);
                Check.due("from(" + a + ", " + b + ", " + what + ")", x.from(a, b, what), m.from(a, b, what));
            }
            case 10, 11, 12 -> {
                int k = argument(-1, below(3) == 0 ? 255 : 3);
                Check.due("ends(" + a + ", " + b + ", " + w + ", " + k + ")", x.ends(a, b, w, k), m.ends(a, b, w, k));
            }
            case 13, 14 -> Check.due("keeps(" + l + ", " + w + ")", x.keeps(l, w), m.keeps(l, w));
            case 15 -> {
                int v = argument(0, 3);
                Check.due("versions(" + v + ")", x.versions(v), m.versions(v));
            }
            case 16 -> Check.due("equalities()", x.equalities(), m.equalities());
            case 17 -> Check.due("linear()", x.linear(), m.linear());
            case 18 -> Check.due("copied()", x.copied(), m.copied());
            case 19 -> {
                int what = below(3) == 0 ? argument(0, 17) : below(2) == 0 ? c : 16 + w;
                int is = argument(0, 1);
                Check.due("sees(" + what + ", " + is + ")", x.sees(what, is), m.sees(what, is));
            }
            case 20 -> {
                if (below(3) == 0) {
                    Check.due("forget()", x.forget(), m.forget());
                }
            }
            case 21, 22 -> Check.due("starts(" + w + ")", x.starts(w), m.starts(w));
            case 23 -> Check.due("ask()", x.ask(), m.ask());
            default -> {
                int what = argument(0, 5);
                Check.due("count(" + what + ")", x.count(what), m.count(what));
            }
        }
    }

    private void restore(PassiveChecks x, Model m) {
        int image = argument(0, 1);
        switch (below(5)) {
            case 0, 1 -> Check.due("keep(" + image + ")", x.keep(image), m.keep(image));
            case 2 -> Check.due("back(" + image + ")", x.back(image), m.back(image));
            default -> Check.due("undo()", x.undo(), m.undo());
        }
    }

    private void run() {
        PassiveChecks x = new PassiveChecks();
        Model m = new Model();
        int calls = change(x, m);
        while (calls < CALLS) {
            int what = below(40);
            if (what == 0) {
                calls += change(x, m);
            } else {
                if (what == 1) {
                    restore(x, m);
                } else {
                    query(x, m);
                }
                calls++;
            }
        }
    }

    public static void main(String[] args) {
        int runs = args.length > 0 ? Integer.parseInt(args[0]) : RUNS;
        for (int run = 0; run < runs; run++) {
            Check.in("run " + run);
            new ModelTest(run).run();
        }
        Check.finish();
    }
}
