import java.util.ArrayList;
import java.util.BitSet;
import java.util.List;

/**
 * The document's words once more, written without regard to speed or to the rules of the program: a tree of
 * statements, each run by itself from each state with sets of states. ModelTest compares it with PassiveChecks.
 */
final class Model {
    static final class Node {
        char op;
        int variable = -1;
        String first = "";
        String second = "";
        int at2;
        int check = -1;
        int loop = -1;
        List<Node> one = new ArrayList<>();
        List<Node> two = new ArrayList<>();
    }

    static final class SyntaxError extends RuntimeException {
        private static final long serialVersionUID = 1;
        final int position;

        SyntaxError(int at) {
            position = at;
        }
    }

    static final class Tree {
        List<Node> top = new ArrayList<>();
        List<Integer> kinds = new ArrayList<>();
        List<Node> loops = new ArrayList<>();
        int statements;
    }

    /** Recursive descent over the text with its spaces. */
    static final class Parser {
        final String text;
        int at;
        final Tree tree = new Tree();

        Parser(String source) {
            text = source;
        }

        char look() {
            while (at < text.length() && text.charAt(at) == ' ') {
                at++;
            }
            return at < text.length() ? text.charAt(at) : (char) 999;
        }

        void need(char sign) {
            if (look() != sign) {
                throw new SyntaxError(at);
            }
            at++;
        }

        Tree program() {
            tree.top = sequence(0);
            if (look() != 999) {
                throw new SyntaxError(at);
            }
            return tree;
        }

        List<Node> block(int loops) {
            need('(');
            List<Node> inside = sequence(loops);
            need(')');
            return inside;
        }

        List<Node> sequence(int loops) {
            List<Node> found = new ArrayList<>();
            while ("abcdhkstpiwy".indexOf(look()) >= 0) {
                found.add(statement(loops));
            }
            return found;
        }

        Node statement(int loops) {
            Node node = new Node();
            node.op = look();
            int checks = node.op == 'w' ? 2 : node.op == 'k' || node.op == 'p' ? 1 : 0;
            if (tree.kinds.size() + checks > 16) {
                throw new SyntaxError(at);
            }
            if (node.op == 'w' && (tree.loops.size() == 4 || loops == 2)) {
                throw new SyntaxError(at);
            }
            if (checks > 0) {
                node.check = tree.kinds.size();
            }
            tree.statements++;
            at++;
            switch (node.op) {
                case 'h' -> node.variable = variable();
                case 'k' -> {
                    tree.kinds.add(0);
                    node.first = term();
                }
                case 's' -> node.first = term();
                case 't' -> { }
                case 'p' -> {
                    tree.kinds.add(3);
                    node.first = term();
                    node.variable = variable();
                    node.second = term();
                }
                case 'i' -> {
                    node.first = term();
                    node.one = block(loops);
                    node.two = block(loops);
                }
                case 'w' -> {
                    tree.kinds.add(1);
                    tree.kinds.add(2);
                    node.loop = tree.loops.size();
                    tree.loops.add(node);
                    node.first = term();
                    look();
                    node.at2 = at;
                    node.second = term();
                    node.one = block(loops + 1);
                }
                case 'y' -> {
                    node.one = block(loops);
                    node.two = block(loops);
                }
                default -> {
                    node.variable = node.op - 'a';
                    node.op = '=';
                    node.first = term();
                }
            }
            return node;
        }

        int variable() {
            char sign = look();
            if (sign < 'a' || sign > 'd') {
                throw new SyntaxError(at);
            }
            at++;
            return sign - 'a';
        }

        String term() {
            char sign = look();
            if ("0123abcd".indexOf(sign) >= 0) {
                at++;
                return "" + sign;
            }
            if (sign == '!') {
                at++;
                return sign + term();
            }
            if ("+-=<&|".indexOf(sign) >= 0) {
                at++;
                String one = term();
                return sign + one + term();
            }
            throw new SyntaxError(at);
        }

        String termAlone() {
            String term = term();
            if (look() != 999) {
                throw new SyntaxError(at);
            }
            return term;
        }
    }

    // ---- terms

    private static int here;

    static int value(String term, int state) {
        here = 0;
        return valueHere(term, state);
    }

    private static int valueHere(String term, int state) {
        char sign = term.charAt(here++);
        if (sign >= '0' && sign <= '3') {
            return sign - '0';
        }
        if (sign >= 'a' && sign <= 'd') {
            return digits(state)[sign - 'a'];
        }
        int one = valueHere(term, state);
        if (sign == '!') {
            return one == 0 ? 1 : 0;
        }
        int two = valueHere(term, state);
        return switch (sign) {
            case '+' -> (one + two) % 4;
            case '-' -> (one - two + 4) % 4;
            case '=' -> one == two ? 1 : 0;
            case '<' -> one < two ? 1 : 0;
            case '&' -> one != 0 && two != 0 ? 1 : 0;
            default -> one != 0 || two != 0 ? 1 : 0;
        };
    }

    static int[] digits(int state) {
        return new int[] {state / 64, state / 16 % 4, state / 4 % 4, state % 4};
    }

    static int number(int[] digits) {
        return 64 * digits[0] + 16 * digits[1] + 4 * digits[2] + digits[3];
    }

    static int with(int state, int variable, int value) {
        int[] digits = digits(state);
        digits[variable] = value;
        return number(digits);
    }

    static BitSet where(BitSet states, String term, boolean truth) {
        BitSet found = new BitSet();
        for (int s = states.nextSetBit(0); s >= 0; s = states.nextSetBit(s + 1)) {
            if ((value(term, s) != 0) == truth) {
                found.set(s);
            }
        }
        return found;
    }

    static BitSet havoc(BitSet states, int variable) {
        BitSet found = new BitSet();
        for (int s = states.nextSetBit(0); s >= 0; s = states.nextSetBit(s + 1)) {
            for (int value = 0; value < 4; value++) {
                found.set(with(s, variable, value));
            }
        }
        return found;
    }

    static int modified(List<Node> block) {
        int set = 0;
        for (Node node : block) {
            if (node.op == '=' || node.op == 'h' || node.op == 'p') {
                set |= 1 << node.variable;
            }
            set |= modified(node.one) | modified(node.two);
        }
        return set;
    }

    // ---- runs

    static final class Outcome {
        final BitSet failed = new BitSet();
        BitSet thrown = new BitSet();
        BitSet ended = new BitSet();
    }

    static Outcome runs(List<Node> block, BitSet begin, boolean cut) {
        Outcome outcome = new Outcome();
        outcome.ended = run(block, begin, cut, outcome);
        return outcome;
    }

    private static BitSet run(List<Node> block, BitSet begin, boolean cut, Outcome outcome) {
        BitSet now = (BitSet) begin.clone();
        for (Node node : block) {
            if (now.isEmpty()) {
                return now;
            }
            now = run(node, now, cut, outcome);
        }
        return now;
    }

    private static BitSet checked(BitSet now, String term, int check, Outcome outcome) {
        if (!where(now, term, false).isEmpty()) {
            outcome.failed.set(check);
        }
        return where(now, term, true);
    }

    private static BitSet run(Node node, BitSet now, boolean cut, Outcome outcome) {
        BitSet then = new BitSet();
        switch (node.op) {
            case '=' -> {
                for (int s = now.nextSetBit(0); s >= 0; s = now.nextSetBit(s + 1)) {
                    then.set(with(s, node.variable, value(node.first, s)));
                }
            }
            case 'h' -> then = havoc(now, node.variable);
            case 'k' -> then = checked(now, node.first, node.check, outcome);
            case 's' -> then = where(now, node.first, true);
            case 't' -> outcome.thrown.or(now);
            case 'p' -> {
                then = checked(now, node.first, node.check, outcome);
                then = where(havoc(then, node.variable), node.second, true);
            }
            case 'i' -> {
                then = run(node.one, where(now, node.first, true), cut, outcome);
                then.or(run(node.two, where(now, node.first, false), cut, outcome));
            }
            case 'y' -> {
                BitSet outer = outcome.thrown;
                outcome.thrown = new BitSet();
                then = run(node.one, now, cut, outcome);
                BitSet caught = outcome.thrown;
                outcome.thrown = outer;
                then.or(run(node.two, caught, cut, outcome));
            }
            default -> then = cut ? cutLoop(node, now, outcome) : loop(node, now, outcome);
        }
        return then;
    }

    private static BitSet loop(Node node, BitSet now, Outcome outcome) {
        BitSet met = (BitSet) now.clone();
        BitSet fresh = (BitSet) now.clone();
        while (!fresh.isEmpty()) {
            BitSet behind = run(node.one, where(fresh, node.first, true), false, outcome);
            behind.andNot(met);
            met.or(behind);
            fresh = behind;
        }
        return where(met, node.first, false);
    }

    private static BitSet cutLoop(Node node, BitSet now, Outcome outcome) {
        BitSet any = checked(now, node.second, node.check, outcome);
        for (int v = 0; v < 4; v++) {
            if ((modified(node.one) >> v & 1) == 1) {
                any = havoc(any, v);
            }
        }
        any = where(any, node.second, true);
        BitSet behind = run(node.one, where(any, node.first, true), true, outcome);
        checked(behind, node.second, node.check + 1, outcome);
        return where(any, node.first, false);
    }

    static BitSet one(int state) {
        BitSet set = new BitSet();
        set.set(state);
        return set;
    }

    // ---- the passive form

    static final class Form {
        int[] greatest = new int[4];
        int equalities;
        int size;

        int[] joined(List<int[]> places) {
            int[] result = places.get(0).clone();
            for (int v = 0; v < 4; v++) {
                boolean same = true;
                for (int[] place : places) {
                    same &= place[v] == places.get(0)[v];
                }
                if (!same) {
                    result[v] = ++greatest[v];
                    equalities += places.size();
                }
            }
            return result;
        }

        int[] ends(int[] one, int[] two) {
            if (one == null || two == null) {
                return one == null ? two : one;
            }
            return joined(List.of(one, two));
        }

        /** Null stands for an end that is not reached. */
        int[] block(List<Node> block, int[] begin, List<int[]> caught) {
            int[] now = begin.clone();
            for (Node node : block) {
                if (now == null) {
                    return null;
                }
                now = statement(node, now, caught);
            }
            return now;
        }

        int[] statement(Node node, int[] versions, List<int[]> caught) {
            int[] now = versions.clone();
            size += 1 + node.first.length() + node.second.length() * (node.op == 'w' ? 3 : 1);
            switch (node.op) {
                case '=', 'h', 'p' -> now[node.variable] = ++greatest[node.variable];
                case 't' -> {
                    caught.add(now);
                    return null;
                }
                case 'i' -> {
                    int[] one = block(node.one, now, caught);
                    int[] two = block(node.two, now, caught);
                    return ends(one, two);
                }
                case 'w' -> {
                    for (int v = 0; v < 4; v++) {
                        if ((modified(node.one) >> v & 1) == 1) {
                            now[v] = ++greatest[v];
                        }
                    }
                    block(node.one, now, caught);
                }
                case 'y' -> {
                    List<int[]> mine = new ArrayList<>();
                    int[] one = block(node.one, now, mine);
                    int[] two = mine.isEmpty() ? null : block(node.two, joined(mine), caught);
                    return ends(one, two);
                }
                default -> { }
            }
            return now;
        }
    }

    static long copied(List<Node> block, long rest, long x) {
        long n = rest;
        for (int i = block.size() - 1; i >= 0; i--) {
            Node node = block.get(i);
            int first = node.first.length();
            int second = node.second.length();
            n = switch (node.op) {
                case '=', 'k', 's' -> n + first + 1;
                case 'h' -> n + 1;
                case 't' -> x;
                case 'p' -> n + first + second + 1;
                case 'i' -> 2 * first + copied(node.one, n, x) + copied(node.two, n, x) + 1;
                case 'w' -> 3 * second + 2 * first + copied(node.one, second, x) + n + 1;
                default -> copied(node.one, n, copied(node.two, n, x));
            };
        }
        return n;
    }

    // ---- the calls

    private static final int BAD = -1, STATE = -2, FULL = -3, NONE = -9;

    private String text = "";
    private String present = "";
    private Tree tree = new Tree();
    private final List<String> earlier = new ArrayList<>();
    private final String[] saved = new String[2];
    private final List<int[]> observations = new ArrayList<>();
    private final Outcome[][] outcomes = new Outcome[2][];

    private void become(String program) {
        present = program;
        tree = new Parser(program).program();
        outcomes[0] = null;
        outcomes[1] = null;
    }

    private void change(String program) {
        earlier.add(present);
        if (earlier.size() > 6) {
            earlier.remove(0);
        }
        become(program);
        text = "";
    }

    private Outcome outcome(int cut, int state) {
        if (outcomes[cut] == null) {
            outcomes[cut] = new Outcome[256];
        }
        if (outcomes[cut][state] == null) {
            outcomes[cut][state] = runs(tree.top, one(state), cut == 1);
        }
        return outcomes[cut][state];
    }

    private boolean can(int cut, int state, int what) {
        Outcome outcome = outcome(cut, state);
        return what < 16 ? outcome.failed.get(what) : !(what == 16 ? outcome.ended : outcome.thrown).isEmpty();
    }

    private static boolean within(int number, int low, int high) {
        return number >= low && number <= high;
    }

    int type(int letter) {
        if (!within(letter, 0, 255)) {
            return BAD;
        }
        if (text.length() == 120) {
            return FULL;
        }
        text += (char) letter;
        return text.length();
    }

    int clear() {
        int had = text.length();
        text = "";
        return had;
    }

    int program() {
        try {
            new Parser(text).program();
        } catch (SyntaxError e) {
            return -10 - e.position;
        }
        change(text.replace(" ", ""));
        return tree.statements;
    }

    int invariant(int loop) {
        if (!within(loop, 0, tree.loops.size() - 1)) {
            return BAD;
        }
        String term;
        try {
            term = new Parser(text).termAlone();
        } catch (SyntaxError e) {
            return -10 - e.position;
        }
        Node node = tree.loops.get(loop);
        change(present.substring(0, node.at2) + term + present.substring(node.at2 + node.second.length()));
        return term.length();
    }

    int undo() {
        if (earlier.isEmpty()) {
            return STATE;
        }
        become(earlier.remove(earlier.size() - 1));
        return earlier.size();
    }

    int told(int k) {
        if (k < -1) {
            return BAD;
        }
        return k == -1 ? present.length() : k < present.length() ? present.charAt(k) : NONE;
    }

    int kind(int check) {
        return within(check, 0, tree.kinds.size() - 1) ? tree.kinds.get(check) : BAD;
    }

    int loop(int l, int what) {
        if (!within(l, 0, tree.loops.size() - 1) || !within(what, 0, 2)) {
            return BAD;
        }
        Node node = tree.loops.get(l);
        BitSet all = new BitSet();
        all.set(0, 256);
        return what == 0 ? node.check : what == 1 ? modified(node.one) : where(all, node.second, true).cardinality();
    }

    int wrong(int cut, int check, int what) {
        if (!within(cut, 0, 1) || kind(check) == BAD || !within(what, 0, 1)) {
            return BAD;
        }
        BitSet found = new BitSet();
        for (int s = 0; s < 256; s++) {
            found.set(s, can(cut, s, check));
        }
        return what == 0 ? found.cardinality() : found.isEmpty() ? NONE : found.nextSetBit(0);
    }

    int spurious(int check) {
        if (kind(check) == BAD) {
            return BAD;
        }
        int many = 0;
        for (int s = 0; s < 256; s++) {
            many += can(1, s, check) && !can(0, s, check) ? 1 : 0;
        }
        return many;
    }

    int from(int cut, int state, int what) {
        if (!within(cut, 0, 1) || !within(state, 0, 255) || !within(what, 0, 2)) {
            return BAD;
        }
        Outcome outcome = outcome(cut, state);
        return switch (what) {
            case 0 -> outcome.failed.isEmpty() ? NONE : outcome.failed.nextSetBit(0);
            case 1 -> outcome.ended.isEmpty() ? 0 : 1;
            default -> outcome.thrown.isEmpty() ? 0 : 1;
        };
    }

    int ends(int cut, int state, int what, int k) {
        if (!within(cut, 0, 1) || !within(state, 0, 255) || !within(what, 0, 1) || k < -1) {
            return BAD;
        }
        Outcome outcome = outcome(cut, state);
        BitSet found = what == 0 ? outcome.ended : outcome.thrown;
        if (k == -1) {
            return found.cardinality();
        }
        int[] states = found.stream().toArray();
        return k < states.length ? states[k] : NONE;
    }

    int keeps(int l, int what) {
        if (!within(l, 0, tree.loops.size() - 1) || !within(what, 0, 1)) {
            return BAD;
        }
        Node node = tree.loops.get(l);
        BitSet all = new BitSet();
        all.set(0, 256);
        BitSet kept = where(all, node.second, true);
        BitSet[] behind = new BitSet[256];
        for (int s = 0; s < 256; s++) {
            behind[s] = value(node.first, s) == 0 ? new BitSet() : runs(node.one, one(s), true).ended;
        }
        int rounds = 0;
        while (true) {
            BitSet next = new BitSet();
            for (int s = kept.nextSetBit(0); s >= 0; s = kept.nextSetBit(s + 1)) {
                BitSet outside = (BitSet) behind[s].clone();
                outside.andNot(kept);
                next.set(s, outside.isEmpty());
            }
            if (next.equals(kept)) {
                return what == 0 ? kept.cardinality() : rounds;
            }
            kept = next;
            rounds++;
        }
    }

    private Form form() {
        Form form = new Form();
        form.block(tree.top, new int[4], new ArrayList<>());
        return form;
    }

    int versions(int v) {
        return within(v, 0, 3) ? form().greatest[v] : BAD;
    }

    int equalities() {
        return form().equalities;
    }

    int linear() {
        Form form = form();
        return form.size + 3 * form.equalities;
    }

    long copied() {
        return copied(tree.top, 1, 1);
    }

    int sees(int what, int is) {
        if (!within(what, 0, 17) || !within(is, 0, 1)) {
            return BAD;
        }
        if (observations.size() == 6) {
            return FULL;
        }
        observations.add(new int[] {what, is});
        return observations.size();
    }

    int forget() {
        int had = observations.size();
        observations.clear();
        return had;
    }

    private BitSet startSet() {
        BitSet found = new BitSet();
        for (int s = 0; s < 256; s++) {
            boolean all = true;
            for (int[] observation : observations) {
                all &= can(0, s, observation[0]) == (observation[1] == 1);
            }
            found.set(s, all);
        }
        return found;
    }

    int starts(int what) {
        if (!within(what, 0, 1)) {
            return BAD;
        }
        BitSet found = startSet();
        return what == 0 ? found.cardinality() : found.isEmpty() ? NONE : found.nextSetBit(0);
    }

    int ask() {
        BitSet found = startSet();
        if (found.cardinality() <= 1) {
            return NONE;
        }
        int best = -1;
        int smallest = 999;
        for (int v = 0; v < 4; v++) {
            int[] groups = new int[4];
            found.stream().forEach(new Grouping(v, groups));
            int largest = Math.max(Math.max(groups[0], groups[1]), Math.max(groups[2], groups[3]));
            if (largest < smallest) {
                smallest = largest;
                best = v;
            }
        }
        return best;
    }

    private record Grouping(int variable, int[] groups) implements java.util.function.IntConsumer {
        @Override
        public void accept(int state) {
            groups[digits(state)[variable]]++;
        }
    }

    int keep(int image) {
        if (!within(image, 0, 1)) {
            return BAD;
        }
        saved[image] = present;
        return tree.statements;
    }

    int back(int image) {
        if (!within(image, 0, 1)) {
            return BAD;
        }
        if (saved[image] == null) {
            return STATE;
        }
        become(saved[image]);
        earlier.clear();
        return tree.statements;
    }

    int count(int what) {
        return switch (what) {
            case 0 -> tree.statements;
            case 1 -> tree.kinds.size();
            case 2 -> tree.loops.size();
            case 3 -> observations.size();
            case 4 -> text.length();
            case 5 -> earlier.size();
            default -> BAD;
        };
    }
}
