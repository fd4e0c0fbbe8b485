import java.util.Arrays;

/**
 * A verification-condition workbench for a small imperative language.
 *
 * The program is held as its text without spaces and read again after every change, so that undoing, saving
 * and restoring it are copies of texts. Nothing is made after the constructor: every search uses the same rows.
 */
public final class PassiveChecks {
    public static final int BAD = -1, STATE = -2, FULL = -3, NONE = -9;

    private static final int VARIABLES = 4;
    private static final int VALUES = 4;
    private static final int STATES = 256;
    /** A state holds each value in two bits; those of b, c and d are each two bits lower. */
    private static final int SHIFT_OF_A = 6;
    private static final int TYPED = 120;
    /** A program has at most the 120 signs that it was read from and four invariants of 120 signs put in later. */
    private static final int SIGNS = 640;
    private static final int NO_SIGN = -1;
    private static final int STATEMENTS = 120;
    /** A text of 120 signs has at most 60 terms: to each belongs a sign more, a letter before or a bracket behind. */
    private static final int TERMS = 64;
    private static final int CHECKS = 16;
    private static final int LOOPS = 4;
    /** A block in a block takes five signs at least, so a program of 120 signs has at most 24 of them. */
    private static final int DEEPEST = 40;
    private static final int CHANGES = 6;
    private static final int IMAGES = 2;
    private static final int OBSERVATIONS = 6;
    private static final int SYNTAX = -10;
    /** The letter by which an assignment is known; in the text it has the letter of its variable. */
    private static final int ASSIGNMENT = 'v';

    /** The bits of what can happen: bits 0 to 15 are failures at the checks. */
    private static final int ENDING = 16, THROWING = 17;
    /** A set of states is four words of 64 bits. */
    private static final int WORDS = 4, WORD = 64;

    /** The rows behind those of the statements: where runs are when they are not before a statement. */
    private static final int END_ROW = STATEMENTS, THROWN_ROW = END_ROW + 1;
    /** At the end of a loop's block; and, in a cut run, behind the first check of a loop. */
    private static final int BACK_ROW = THROWN_ROW + 1, HEAD_ROW = BACK_ROW + LOOPS;
    private static final int ROWS = HEAD_ROW + LOOPS;
    private static final int PLACES = ROWS * STATES;

    private final Text typed;
    private final Text present;
    private final Text spare;
    private final Text[] earlier;
    private final Text[] saved;
    private final boolean[] isSaved;
    private final Reader reader;
    private final Program parsed;
    private final Program trial;
    private final Runs runs;
    private final Passive passive;
    private final int[] seenWhat;
    private final int[] seenIs;
    private int changes;
    private int seen;

    public PassiveChecks() {
        typed = new Text(TYPED);
        present = new Text(SIGNS);
        spare = new Text(SIGNS);
        earlier = new Text[CHANGES];
        for (int i = 0; i < CHANGES; i++) {
            earlier[i] = new Text(SIGNS);
        }
        saved = new Text[IMAGES];
        for (int i = 0; i < IMAGES; i++) {
            saved[i] = new Text(SIGNS);
        }
        isSaved = new boolean[IMAGES];
        parsed = new Program(present);
        trial = new Program(typed);
        reader = new Reader(trial);
        runs = new Runs(parsed);
        passive = new Passive(parsed);
        seenWhat = new int[OBSERVATIONS];
        seenIs = new int[OBSERVATIONS];
    }

    // ---- texts, changes

    public int type(int letter) {
        if (letter < 0 || letter > 255) {
            return BAD;
        }
        if (!typed.add(letter)) {
            return FULL;
        }
        return typed.length;
    }

    public int clear() {
        int had = typed.length;
        typed.length = 0;
        return had;
    }

    public int program() {
        int error = reader.readProgram(typed, trial);
        if (error >= 0) {
            return SYNTAX - error;
        }
        spare.length = 0;
        spare.addPlain(typed, 0, typed.length);
        changeToSpare();
        readPresent();
        return parsed.size;
    }

    public int invariant(int loop) {
        if (!parsed.hasLoop(loop)) {
            return BAD;
        }
        int error = reader.readTerm(typed, trial);
        if (error >= 0) {
            return SYNTAX - error;
        }
        int old = parsed.loopStatement(loop).second;
        int begin = parsed.termBegin(old);
        spare.length = 0;
        spare.addPlain(present, 0, begin);
        spare.addPlain(typed, 0, typed.length);
        int length = spare.length - begin;
        spare.addPlain(present, begin + parsed.termLength(old), present.length);
        changeToSpare();
        readPresent();
        return length;
    }

    public int undo() {
        if (changes <= 0) {
            return STATE;
        }
        changes--;
        present.become(earlier[changes]);
        readPresent();
        return changes;
    }

    private void changeToSpare() {
        if (changes >= CHANGES) {
            dropOldest();
        }
        earlier[changes].become(present);
        changes++;
        present.become(spare);
        typed.length = 0;
    }

    private void dropOldest() {
        Text oldest = earlier[0];
        for (int i = 1; i < CHANGES; i++) {
            earlier[i - 1] = earlier[i];
        }
        earlier[CHANGES - 1] = oldest;
        changes = CHANGES - 1;
    }

    private void readPresent() {
        reader.readProgram(present, parsed);
        runs.drop();
    }

    // ---- the program

    public int told(int k) {
        if (k < -1) {
            return BAD;
        }
        if (k == -1) {
            return present.length;
        }
        int sign = present.sign(k);
        return sign == NO_SIGN ? NONE : sign;
    }

    public int kind(int check) {
        return parsed.hasCheck(check) ? parsed.kinds[check] : BAD;
    }

    public int loop(int l, int what) {
        if (!parsed.hasLoop(l) || what < 0 || what > 2) {
            return BAD;
        }
        Statement loop = parsed.loopStatement(l);
        if (what == 0) {
            return loop.check;
        }
        return what == 1 ? loop.modified : runs.statesWith(loop.second);
    }

    // ---- runs

    public int wrong(int cut, int check, int what) {
        if (!isFlag(cut) || !parsed.hasCheck(check) || !isFlag(what)) {
            return BAD;
        }
        runs.prepare(cut);
        int many = 0;
        int lowest = NONE;
        for (int state = STATES - 1; state >= 0; state--) {
            if (runs.can(cut, state, check)) {
                many++;
                lowest = state;
            }
        }
        return what == 0 ? many : lowest;
    }

    public int spurious(int check) {
        if (!parsed.hasCheck(check)) {
            return BAD;
        }
        runs.prepare(0);
        runs.prepare(1);
        int many = 0;
        for (int state = 0; state < STATES; state++) {
            if (runs.can(1, state, check) && !runs.can(0, state, check)) {
                many++;
            }
        }
        return many;
    }

    public int from(int cut, int state, int what) {
        if (!isFlag(cut) || !isState(state) || what < 0 || what > 2) {
            return BAD;
        }
        runs.prepare(cut);
        if (what > 0) {
            return runs.can(cut, state, what == 1 ? ENDING : THROWING) ? 1 : 0;
        }
        for (int check = 0; check < CHECKS; check++) {
            if (runs.can(cut, state, check)) {
                return check;
            }
        }
        return NONE;
    }

    public int ends(int cut, int state, int what, int k) {
        if (!isFlag(cut) || !isState(state) || !isFlag(what) || k < -1) {
            return BAD;
        }
        runs.search(cut, state);
        int row = what == 0 ? END_ROW : THROWN_ROW;
        int many = 0;
        for (int s = 0; s < STATES; s++) {
            if (runs.isReached(row, s)) {
                if (many == k) {
                    return s;
                }
                many++;
            }
        }
        return k == -1 ? many : NONE;
    }

    public int keeps(int l, int what) {
        if (!parsed.hasLoop(l) || !isFlag(what)) {
            return BAD;
        }
        runs.prepareLoop(l);
        return what == 0 ? runs.kept[l] : runs.rounds[l];
    }

    private static boolean isFlag(int number) {
        return number == 0 || number == 1;
    }

    private static boolean isState(int number) {
        return number >= 0 && number < STATES;
    }

    // ---- the passive form

    public int versions(int v) {
        if (v < 0 || v >= VARIABLES) {
            return BAD;
        }
        passive.traverse();
        return passive.greatest[v];
    }

    public int equalities() {
        passive.traverse();
        return passive.equations;
    }

    public int linear() {
        passive.traverse();
        return passive.size + 3 * passive.equations;
    }

    public long copied() {
        return passive.sizeByCopying();
    }

    // ---- observations

    public int sees(int what, int is) {
        if (what < 0 || what > THROWING || !isFlag(is)) {
            return BAD;
        }
        if (seen >= OBSERVATIONS) {
            return FULL;
        }
        seenWhat[seen] = what;
        seenIs[seen] = is;
        seen++;
        return seen;
    }

    public int forget() {
        int had = seen;
        seen = 0;
        return had;
    }

    public int starts(int what) {
        if (!isFlag(what)) {
            return BAD;
        }
        runs.prepare(0);
        return what == 0 ? startsFound() : lowestStart();
    }

    public int ask() {
        runs.prepare(0);
        if (startsFound() <= 1) {
            return NONE;
        }
        int best = 0;
        int smallest = STATES + 1;
        for (int v = 0; v < VARIABLES; v++) {
            int largest = largestGroup(v);
            if (largest < smallest) {
                smallest = largest;
                best = v;
            }
        }
        return best;
    }

    private int startsFound() {
        int many = 0;
        for (int state = 0; state < STATES; state++) {
            if (isStart(state)) {
                many++;
            }
        }
        return many;
    }

    private int lowestStart() {
        for (int state = 0; state < STATES; state++) {
            if (isStart(state)) {
                return state;
            }
        }
        return NONE;
    }

    private int largestGroup(int variable) {
        int largest = 0;
        for (int value = 0; value < VALUES; value++) {
            int many = 0;
            for (int state = 0; state < STATES; state++) {
                if (valueIn(state, variable) == value && isStart(state)) {
                    many++;
                }
            }
            largest = Math.max(largest, many);
        }
        return largest;
    }

    private boolean isStart(int state) {
        for (int i = 0; i < seen && i < OBSERVATIONS; i++) {
            if (runs.can(0, state, seenWhat[i]) != (seenIs[i] == 1)) {
                return false;
            }
        }
        return true;
    }

    // ---- saved programs, counts

    public int keep(int image) {
        if (image < 0 || image >= IMAGES) {
            return BAD;
        }
        saved[image].become(present);
        isSaved[image] = true;
        return parsed.size;
    }

    public int back(int image) {
        if (image < 0 || image >= IMAGES) {
            return BAD;
        }
        if (!isSaved[image]) {
            return STATE;
        }
        present.become(saved[image]);
        changes = 0;
        readPresent();
        return parsed.size;
    }

    public int count(int what) {
        switch (what) {
            case 0:
                return parsed.size;
            case 1:
                return parsed.checks;
            case 2:
                return parsed.loops;
            case 3:
                return seen;
            case 4:
                return typed.length;
            case 5:
                return changes;
            default:
                return BAD;
        }
    }

    // ---- signs and states

    private static boolean isVariable(int sign) {
        return sign >= 'a' && sign <= 'd';
    }

    private static boolean isDigit(int sign) {
        return sign >= '0' && sign <= '3';
    }

    private static int valueIn(int state, int variable) {
        return (state >> (SHIFT_OF_A - 2 * variable)) & (VALUES - 1);
    }

    private static int stateWith(int state, int variable, int value) {
        int shift = SHIFT_OF_A - 2 * variable;
        return (state & ~((VALUES - 1) << shift)) | (value << shift);
    }

    /** Signs in a row of fixed length. */
    private static final class Text {
        private final char[] signs;
        private int length;

        Text(int room) {
            signs = new char[Math.max(room, 0)];
        }

        boolean add(int sign) {
            if (length >= signs.length) {
                return false;
            }
            signs[length] = (char) sign;
            length++;
            return true;
        }

        int sign(int index) {
            return index >= 0 && index < length ? signs[index] : NO_SIGN;
        }

        void addPlain(Text other, int begin, int end) {
            for (int i = begin; i < end; i++) {
                int sign = other.sign(i);
                if (sign != ' ' && sign != NO_SIGN) {
                    add(sign);
                }
            }
        }

        void become(Text other) {
            length = Math.min(other.length, signs.length);
            System.arraycopy(other.signs, 0, signs, 0, length);
        }
    }

    /** A statement; -1 stands for what it does not have. */
    private static final class Statement {
        private int letter;
        private int variable;
        private int first;
        private int second;
        private int check;
        private int loop;
        /** The variables that a loop's block modifies, a bit each; and the bits of a state that hold them. */
        private int modified;
        private int modifiedBits;
        /** The statement in whose block this one is, and in which of its blocks. */
        private int parent;
        private int side;
        private int next;
        private int previous;
        /** The first and the last statement of each block. */
        private final int[] begin = new int[2];
        private final int[] last = new int[2];
        /** The last statement of all in its blocks. */
        private int end;
        /** The rows: what comes behind it, what comes of a throw at its place, where it goes if true, if false. */
        private int after;
        private int caught;
        private int go;
        private int other;

        void reset(int newLetter) {
            letter = newLetter;
            variable = -1;
            first = -1;
            second = -1;
            check = -1;
            loop = -1;
            modified = 0;
            modifiedBits = 0;
            parent = -1;
            side = 0;
            next = -1;
            previous = -1;
            end = -1;
            for (int i = 0; i < 2; i++) {
                begin[i] = -1;
                last[i] = -1;
            }
            after = END_ROW;
            caught = THROWN_ROW;
            go = END_ROW;
            other = END_ROW;
        }

        boolean isLoop() {
            return letter == 'w';
        }

        boolean hasTwoBlocks() {
            return letter == 'i' || letter == 'y';
        }
    }

    /** What a text says as a program: its statements in the order of the text, its terms, checks and loops. */
    private static final class Program {
        private Text text;
        private final Statement[] statements;
        private final Statement nothing;
        private int size;
        private int lastOfAll;
        private final int[] kinds;
        private int checks;
        private final int[] loopRows;
        private int loops;
        private final int[] termBegins;
        private final int[] termLengths;
        private int terms;

        Program(Text source) {
            text = source;
            statements = new Statement[STATEMENTS];
            for (int i = 0; i < STATEMENTS; i++) {
                statements[i] = new Statement();
            }
            nothing = new Statement();
            nothing.reset(0);
            lastOfAll = -1;
            kinds = new int[CHECKS];
            loopRows = new int[LOOPS];
            termBegins = new int[TERMS];
            termLengths = new int[TERMS];
        }

        void reset(Text source) {
            text = source;
            size = 0;
            lastOfAll = -1;
            checks = 0;
            loops = 0;
            terms = 0;
        }

        Statement at(int row) {
            return row >= 0 && row < size ? statements[row] : nothing;
        }

        boolean hasCheck(int check) {
            return check >= 0 && check < checks;
        }

        boolean hasLoop(int l) {
            return l >= 0 && l < loops;
        }

        int loopRow(int l) {
            return l >= 0 && l < loops ? loopRows[l] : -1;
        }

        Statement loopStatement(int l) {
            return at(loopRow(l));
        }

        int termBegin(int term) {
            return term >= 0 && term < terms ? termBegins[term] : 0;
        }

        int termLength(int term) {
            return term >= 0 && term < terms ? termLengths[term] : 0;
        }

        /** The row in which a run of the whole program begins. */
        int startRow() {
            return size > 0 ? 0 : END_ROW;
        }

        int addTerm(int begin, int length) {
            if (terms >= TERMS) {
                return -1;
            }
            termBegins[terms] = begin;
            termLengths[terms] = length;
            terms++;
            return terms - 1;
        }

        void addCheck(int kind) {
            if (checks < CHECKS) {
                kinds[checks] = kind;
                checks++;
            }
        }

        void addLoop(int row) {
            if (loops < LOOPS) {
                loopRows[loops] = row;
                loops++;
            }
        }

        /** Puts the rows and the modified variables into the statements; a block's owner stands before it. */
        void link() {
            for (int row = 0; row < size; row++) {
                Statement s = at(row);
                linkOut(s);
                linkIn(s);
                noteModified(s);
            }
        }

        private void linkOut(Statement s) {
            Statement owner = at(s.parent);
            boolean inside = s.parent >= 0;
            if (s.next >= 0) {
                s.after = s.next;
            } else {
                s.after = inside ? rowBehindBlock(owner) : END_ROW;
            }
            if (inside && owner.letter == 'y' && s.side == 0) {
                s.caught = entry(owner, 1);
            } else {
                s.caught = inside ? owner.caught : THROWN_ROW;
            }
        }

        private void linkIn(Statement s) {
            s.other = s.after;
            if (s.letter == 't') {
                s.go = s.caught;
            } else if (s.letter == 'i' || s.letter == 'w' || s.letter == 'y') {
                s.go = entry(s, 0);
            } else {
                s.go = s.after;
            }
            if (s.letter == 'i') {
                s.other = entry(s, 1);
            }
        }

        private int rowBehindBlock(Statement owner) {
            return owner.isLoop() ? BACK_ROW + owner.loop : owner.after;
        }

        private int entry(Statement owner, int side) {
            return owner.begin[side] >= 0 ? owner.begin[side] : rowBehindBlock(owner);
        }

        private void noteModified(Statement s) {
            if (s.variable < 0) {
                return;
            }
            Statement owner = at(s.parent);
            for (int n = 0; n < STATEMENTS && owner != nothing; n++) {
                if (owner.isLoop()) {
                    owner.modified |= 1 << s.variable;
                    owner.modifiedBits |= stateWith(0, s.variable, VALUES - 1);
                }
                owner = at(owner.parent);
            }
        }
    }

    /** Reads a text sign by sign into a program. Once there is an error, what is left is not read. */
    private static final class Reader {
        private Text text;
        private Program into;
        /** Where the reader stands, never at a space, and the sign there. */
        private int at;
        private int sign;
        private int error;
        /** The statements whose blocks are open, which of their blocks it is, and the last statement at each depth. */
        private final int[] open;
        private final int[] side;
        private final int[] tail;
        private int depth;
        private int loopsOpen;

        Reader(Program first) {
            into = first;
            text = first.text;
            sign = NO_SIGN;
            error = -1;
            open = new int[STATEMENTS + 1];
            side = new int[STATEMENTS + 1];
            tail = new int[STATEMENTS + 1];
        }

        /** Returns the error position, or -1. */
        int readProgram(Text source, Program target) {
            start(source, target);
            for (int n = 0; n <= source.length && error < 0 && sign != NO_SIGN; n++) {
                if (sign == ')' && depth > 0) {
                    closeBlock();
                } else if (isAllowed()) {
                    readStatement();
                } else {
                    error = at;
                }
            }
            if (error < 0 && depth > 0) {
                error = source.length;
            }
            if (error < 0) {
                target.link();
            }
            return error;
        }

        /** Returns the error position of a text that is to be one term, or -1. */
        int readTerm(Text source, Program target) {
            start(source, target);
            term();
            if (error < 0 && sign != NO_SIGN) {
                error = at;
            }
            return error;
        }

        private void start(Text source, Program target) {
            text = source;
            into = target;
            into.reset(source);
            error = -1;
            depth = 0;
            loopsOpen = 0;
            tail[0] = -1;
            moveTo(0);
        }

        private void moveTo(int index) {
            at = index;
            while (at < text.length && text.sign(at) == ' ') {
                at++;
            }
            sign = text.sign(at);
        }

        private boolean isAllowed() {
            if (into.size >= STATEMENTS) {
                return false;
            }
            switch (sign) {
                case 'k':
                case 'p':
                    return into.checks < CHECKS;
                case 'w':
                    return into.checks + 1 < CHECKS && into.loops < LOOPS && loopsOpen < 2;
                case 'h':
                case 's':
                case 't':
                case 'i':
                case 'y':
                    return true;
                default:
                    return isVariable(sign);
            }
        }

        private void readStatement() {
            int row = into.size;
            Statement s = addStatement(row);
            moveTo(at + 1);
            switch (s.letter) {
                case 'h':
                    s.variable = variable();
                    break;
                case 'p':
                    s.first = term();
                    s.variable = variable();
                    s.second = term();
                    break;
                case 'i':
                    s.first = term();
                    openBlock(row);
                    break;
                case 'w':
                    s.first = term();
                    s.second = term();
                    openBlock(row);
                    break;
                case 'y':
                    openBlock(row);
                    break;
                case 't':
                    break;
                default:
                    s.first = term();
                    break;
            }
        }

        private Statement addStatement(int row) {
            into.size++;
            Statement s = into.at(row);
            s.reset(isVariable(sign) ? ASSIGNMENT : sign);
            if (s.letter == ASSIGNMENT) {
                s.variable = sign - 'a';
            }
            addChecks(s, row);
            s.previous = tail[depth];
            tail[depth] = row;
            if (s.previous >= 0) {
                into.at(s.previous).next = row;
            }
            if (depth == 0) {
                into.lastOfAll = row;
                return s;
            }
            s.parent = open[depth - 1];
            s.side = side[depth - 1];
            Statement owner = into.at(s.parent);
            owner.last[s.side] = row;
            if (s.previous < 0) {
                owner.begin[s.side] = row;
            }
            return s;
        }

        private void addChecks(Statement s, int row) {
            if (s.letter != 'k' && s.letter != 'p' && !s.isLoop()) {
                return;
            }
            s.check = into.checks;
            if (s.isLoop()) {
                s.loop = into.loops;
                into.addLoop(row);
                into.addCheck(1);
                into.addCheck(2);
            } else {
                into.addCheck(s.letter == 'k' ? 0 : 3);
            }
        }

        private void openBlock(int row) {
            pass('(');
            if (error >= 0) {
                return;
            }
            if (depth >= STATEMENTS) {
                error = at;
                return;
            }
            open[depth] = row;
            side[depth] = 0;
            depth++;
            tail[depth] = -1;
            if (into.at(row).isLoop()) {
                loopsOpen++;
            }
        }

        private void closeBlock() {
            moveTo(at + 1);
            Statement owner = into.at(open[depth - 1]);
            if (owner.hasTwoBlocks() && side[depth - 1] == 0) {
                pass('(');
                side[depth - 1] = 1;
                tail[depth] = -1;
                return;
            }
            depth--;
            owner.end = into.size - 1;
            if (owner.isLoop()) {
                loopsOpen--;
            }
        }

        private void pass(int wanted) {
            if (error >= 0) {
                return;
            }
            if (sign == wanted) {
                moveTo(at + 1);
            } else {
                error = at;
            }
        }

        private int variable() {
            if (error >= 0) {
                return -1;
            }
            if (!isVariable(sign)) {
                error = at;
                return -1;
            }
            int variable = sign - 'a';
            moveTo(at + 1);
            return variable;
        }

        /** A term is over when no operand is missing any more; so it is read without going down into it. */
        private int term() {
            int begin = at;
            int length = 0;
            int missing = 1;
            while (error < 0 && missing > 0 && length <= text.length) {
                if (isVariable(sign) || isDigit(sign)) {
                    missing--;
                } else if (isBinary(sign)) {
                    missing++;
                } else if (sign != '!') {
                    error = at;
                    return -1;
                }
                length++;
                moveTo(at + 1);
            }
            return error < 0 ? into.addTerm(begin, length) : -1;
        }

        private static boolean isBinary(int sign) {
            return sign == '+' || sign == '-' || sign == '=' || sign == '<' || sign == '&' || sign == '|';
        }
    }

    /** The value of every term in every state. */
    private static final class Values {
        private final Program program;
        private final byte[] values;
        private final int[] stack;
        private boolean known;

        Values(Program source) {
            program = source;
            values = new byte[TERMS * STATES];
            stack = new int[TYPED];
        }

        void drop() {
            known = false;
        }

        void prepare() {
            if (known) {
                return;
            }
            for (int term = 0; term < program.terms && term < TERMS; term++) {
                int begin = program.termBegin(term);
                int end = begin + program.termLength(term);
                for (int state = 0; state < STATES; state++) {
                    values[term * STATES + state] = (byte) evaluate(begin, end, state);
                }
            }
            known = true;
        }

        int of(int term, int state) {
            int place = term * STATES + state;
            return place >= 0 && place < values.length ? values[place] : 0;
        }

        boolean isTrue(int term, int state) {
            int place = term * STATES + state;
            return place >= 0 && place < values.length && values[place] != 0;
        }

        /** From the last sign to the first, so that the operands lie on the stack when their sign is met. */
        private int evaluate(int begin, int end, int state) {
            int top = 0;
            for (int i = end - 1; i >= begin; i--) {
                int sign = program.text.sign(i);
                if (isDigit(sign) || isVariable(sign)) {
                    if (top >= stack.length) {
                        return 0;
                    }
                    stack[top] = isDigit(sign) ? sign - '0' : valueIn(state, sign - 'a');
                    top++;
                } else if (sign == '!') {
                    if (top < 1) {
                        return 0;
                    }
                    stack[top - 1] = oneIf(stack[top - 1] == 0);
                } else {
                    if (top < 2) {
                        return 0;
                    }
                    top--;
                    stack[top - 1] = combined(sign, stack[top], stack[top - 1]);
                }
            }
            return top > 0 ? stack[top - 1] : 0;
        }

        private static int combined(int sign, int first, int second) {
            switch (sign) {
                case '+':
                    return (first + second) & (VALUES - 1);
                case '-':
                    return (first - second) & (VALUES - 1);
                case '=':
                    return oneIf(first == second);
                case '<':
                    return oneIf(first < second);
                case '&':
                    return oneIf(first != 0 && second != 0);
                default:
                    return oneIf(first != 0 || second != 0);
            }
        }

        private static int oneIf(boolean condition) {
            return condition ? 1 : 0;
        }
    }

    /** What a run does in one step. A place is a row and a state, numbered row * 256 + state. */
    private static final class Steps {
        private final Program program;
        private final Values values;
        private final int[] places;
        private int found;

        Steps(Program source, Values ofTerms) {
            program = source;
            values = ofTerms;
            places = new int[STATES];
        }

        /** Finds the places to which a run can go; returns the check at which it fails, or -1. */
        int find(int row, int state, int cut) {
            found = 0;
            if (row < STATEMENTS) {
                return ofStatement(program.at(row), state, cut);
            }
            if (row >= HEAD_ROW) {
                ofHead(program.loopStatement(row - HEAD_ROW), state);
                return -1;
            }
            return row >= BACK_ROW ? ofBack(row - BACK_ROW, state, cut) : -1;
        }

        private void add(int row, int state) {
            if (row >= 0 && row < ROWS && found < STATES) {
                places[found] = row * STATES + (state & (STATES - 1));
                found++;
            }
        }

        private int ofStatement(Statement s, int state, int cut) {
            switch (s.letter) {
                case ASSIGNMENT:
                    add(s.go, stateWith(state, s.variable, values.of(s.first, state)));
                    return -1;
                case 'h':
                    addHavoc(s, state);
                    return -1;
                case 'k':
                    if (!values.isTrue(s.first, state)) {
                        return s.check;
                    }
                    add(s.go, state);
                    return -1;
                case 's':
                    if (values.isTrue(s.first, state)) {
                        add(s.go, state);
                    }
                    return -1;
                case 'p':
                    if (!values.isTrue(s.first, state)) {
                        return s.check;
                    }
                    addHavoc(s, state);
                    return -1;
                case 'w':
                    if (cut == 1) {
                        return ofCutLoop(s, state);
                    }
                    add(values.isTrue(s.first, state) ? s.go : s.other, state);
                    return -1;
                case 'i':
                    add(values.isTrue(s.first, state) ? s.go : s.other, state);
                    return -1;
                default:
                    add(s.go, state);
                    return -1;
            }
        }

        /** Of a havoc, and of a call, which lets only the states pass in which its second term is true. */
        private void addHavoc(Statement s, int state) {
            for (int value = 0; value < VALUES; value++) {
                int then = stateWith(state, s.variable, value);
                if (s.second < 0 || values.isTrue(s.second, then)) {
                    add(s.go, then);
                }
            }
        }

        /** The modified variables are made 0, since all states that differ in them alone go on in the same way. */
        private int ofCutLoop(Statement s, int state) {
            if (!values.isTrue(s.second, state)) {
                return s.check;
            }
            add(HEAD_ROW + s.loop, state & ~s.modifiedBits);
            return -1;
        }

        private void ofHead(Statement s, int state) {
            int bits = s.modifiedBits;
            if ((state & bits) != 0) {
                return;
            }
            int part = 0;
            for (int n = 0; n < STATES; n++) {
                int then = state | part;
                if (values.isTrue(s.second, then)) {
                    add(values.isTrue(s.first, then) ? s.go : s.other, then);
                }
                // the next number that has no other bits than these
                part = (part - bits) & bits;
                if (part == 0) {
                    break;
                }
            }
        }

        private int ofBack(int l, int state, int cut) {
            if (cut == 0) {
                add(program.loopRow(l), state);
                return -1;
            }
            Statement s = program.loopStatement(l);
            return values.isTrue(s.second, state) ? -1 : s.check + 1;
        }
    }

    /** Runs, forward, from place to place. */
    private static final class Walk {
        private static final int NOWHERE = -1;
        private static final int CLOSED = PLACES + 1;

        private final Program program;
        private final Steps steps;
        /** For each place that is met its number, from 1; and the lowest number that it leads back to, or CLOSED. */
        private final int[] number;
        private final int[] low;
        /** The place from which it was met; and the place below it on the stack of those that are not closed. */
        private final int[] parent;
        private final int[] below;
        /** The bits of what can happen from the place; the row is shared with the cut runs. */
        private final long[] outcome;
        private int met;
        private int top;
        /** The state and kind of the runs whose places are marked as met, or NOWHERE. */
        private int marked;

        Walk(Program source, Steps ofRuns, long[] notes) {
            program = source;
            steps = ofRuns;
            number = new int[PLACES];
            low = new int[PLACES];
            parent = new int[PLACES];
            below = new int[PLACES];
            outcome = notes;
            marked = NOWHERE;
        }

        void drop() {
            marked = NOWHERE;
        }

        private void startAgain() {
            Arrays.fill(number, 0, program.size * STATES, 0);
            Arrays.fill(number, END_ROW * STATES, PLACES, 0);
            met = 0;
            top = NOWHERE;
            marked = NOWHERE;
        }

        /** Puts what can happen in runs from each state. */
        void findOutcomes(int[] into) {
            startAgain();
            for (int state = 0; state < STATES; state++) {
                int place = program.startRow() * STATES + state;
                goFrom(place);
                into[state] = (int) outcome[place];
            }
        }

        /** Depth first, since places that lead to one another in a circle have the same outcomes (Tarjan). */
        private void goFrom(int place) {
            if (number[place] != 0) {
                return;
            }
            open(place, NOWHERE);
            int here = place;
            for (int n = 0; n < 2 * PLACES && here != NOWHERE; n++) {
                int failed = steps.find(here / STATES, here % STATES, 0);
                int next = firstNotMet();
                if (next == NOWHERE) {
                    finish(here, failed);
                    here = parent[here];
                } else {
                    open(next, here);
                    here = next;
                }
            }
        }

        private int firstNotMet() {
            for (int i = 0; i < steps.found; i++) {
                if (number[steps.places[i]] == 0) {
                    return steps.places[i];
                }
            }
            return NOWHERE;
        }

        private void open(int place, int from) {
            met++;
            number[place] = met;
            low[place] = met;
            outcome[place] = 0;
            parent[place] = from;
            below[place] = top;
            top = place;
        }

        private void finish(int place, int failed) {
            long bits = ownOutcome(place / STATES, failed);
            int lowest = number[place];
            for (int i = 0; i < steps.found; i++) {
                bits |= outcome[steps.places[i]];
                lowest = Math.min(lowest, low[steps.places[i]]);
            }
            outcome[place] = bits;
            low[place] = lowest;
            if (lowest == number[place]) {
                close(place);
            }
        }

        private static long ownOutcome(int row, int failed) {
            if (failed >= 0) {
                return 1L << failed;
            }
            if (row == END_ROW) {
                return 1L << ENDING;
            }
            return row == THROWN_ROW ? 1L << THROWING : 0;
        }

        private void close(int first) {
            for (int n = 0; n < PLACES && top != NOWHERE; n++) {
                int place = top;
                top = below[place];
                low[place] = CLOSED;
                outcome[place] = outcome[first];
                if (place == first) {
                    return;
                }
            }
        }

        /** Marks the places that runs from one state can reach. */
        void mark(int cut, int state) {
            int which = cut * STATES + state;
            if (marked == which) {
                return;
            }
            startAgain();
            int waiting = program.startRow() * STATES + (state & (STATES - 1));
            number[waiting] = 1;
            below[waiting] = NOWHERE;
            for (int n = 0; n < PLACES && waiting != NOWHERE; n++) {
                int here = waiting;
                waiting = below[here];
                steps.find(here / STATES, here % STATES, cut);
                for (int i = 0; i < steps.found; i++) {
                    int there = steps.places[i];
                    if (number[there] == 0) {
                        number[there] = 1;
                        below[there] = waiting;
                        waiting = there;
                    }
                }
            }
            marked = which;
        }

        boolean isMarked(int row, int state) {
            return number[row * STATES + state] != 0;
        }
    }

    /** Cut runs, backward: they never go back, so one sweep from the last row to the first finds all. */
    private static final class CutRuns {
        private final Program program;
        private final Values values;
        private final Steps steps;
        /** For each place the bits of what can happen from it, or of the states in which a block can end. */
        private final long[] notes;

        CutRuns(Program source, Values ofTerms, Steps ofRuns, long[] shared) {
            program = source;
            values = ofTerms;
            steps = ofRuns;
            notes = shared;
        }

        private void clearNotes() {
            Arrays.fill(notes, 0, program.size * STATES, 0);
            Arrays.fill(notes, END_ROW * STATES, PLACES, 0);
        }

        /** Puts what can happen in cut runs from each state. */
        void findOutcomes(int[] into) {
            clearNotes();
            for (int state = 0; state < STATES; state++) {
                notes[END_ROW * STATES + state] = 1L << ENDING;
                notes[THROWN_ROW * STATES + state] = 1L << THROWING;
            }
            for (int l = 0; l < program.loops; l++) {
                noteSecondCheck(BACK_ROW + l);
            }
            sweep(0, program.size - 1, true);
            for (int state = 0; state < STATES; state++) {
                into[state] = (int) notes[program.startRow() * STATES + state];
            }
        }

        /** Puts in which states a loop's block can end, a bit for each, from the states that enter the block. */
        void findEnds(int l, long[] into) {
            clearNotes();
            Statement loop = program.loopStatement(l);
            int behind = (BACK_ROW + l) * STATES;
            for (int word = 0; word < WORDS; word++) {
                for (int state = 0; state < STATES; state++) {
                    notes[behind + state] = state / WORD == word ? 1L << (state % WORD) : 0;
                }
                sweep(program.loopRow(l) + 1, loop.end, false);
                for (int state = 0; state < STATES; state++) {
                    boolean enters = values.isTrue(loop.first, state);
                    into[state * WORDS + word] = enters ? notes[loop.go * STATES + state] : 0;
                }
            }
        }

        /** At the end of a loop's block a cut run is over. */
        private void noteSecondCheck(int row) {
            for (int state = 0; state < STATES; state++) {
                int failed = steps.find(row, state, 1);
                notes[row * STATES + state] = failed >= 0 ? 1L << failed : 0;
            }
        }

        /** Each row from the last to the first; just before that of a loop, the row behind the loop's first check. */
        private void sweep(int low, int high, boolean failing) {
            for (int row = high; row >= low; row--) {
                Statement s = program.at(row);
                for (int part = s.isLoop() ? 1 : 0; part >= 0; part--) {
                    int here = part == 1 ? HEAD_ROW + s.loop : row;
                    for (int state = 0; state < STATES; state++) {
                        int failed = steps.find(here, state, 1);
                        long bits = failing && failed >= 0 ? 1L << failed : 0;
                        for (int i = 0; i < steps.found; i++) {
                            bits |= notes[steps.places[i]];
                        }
                        notes[here * STATES + state] = bits;
                    }
                }
            }
        }
    }

    /** The inductive part of an invariant. Sets of states have a bit for each state. */
    private static final class Inductive {
        private final Values values;
        /** For each state the set of the states in which the block can end. */
        private final long[] ends;
        private final long[] outside;
        private final long[] removed;

        Inductive(Values ofTerms) {
            values = ofTerms;
            ends = new long[STATES * WORDS];
            outside = new long[WORDS];
            removed = new long[WORDS];
        }

        /** Returns the number of rounds. */
        int shrink(int invariant) {
            begin(invariant);
            int rounds = 0;
            while (rounds < STATES && isRoundRemoving()) {
                rounds++;
            }
            return rounds;
        }

        int statesKept() {
            int many = STATES;
            for (int word = 0; word < WORDS; word++) {
                many -= Long.bitCount(outside[word]);
            }
            return many;
        }

        private void begin(int invariant) {
            Arrays.fill(outside, 0);
            for (int state = 0; state < STATES; state++) {
                if (!values.isTrue(invariant, state)) {
                    outside[state / WORD] |= 1L << (state % WORD);
                }
            }
        }

        /** Removes the states of a round at the same time; tells whether there were some. */
        private boolean isRoundRemoving() {
            Arrays.fill(removed, 0);
            for (int state = 0; state < STATES; state++) {
                if (canLeave(state)) {
                    removed[state / WORD] |= 1L << (state % WORD);
                }
            }
            boolean some = false;
            for (int word = 0; word < WORDS; word++) {
                some = some || (removed[word] & ~outside[word]) != 0;
                outside[word] |= removed[word];
            }
            return some;
        }

        private boolean canLeave(int state) {
            for (int word = 0; word < WORDS; word++) {
                if ((ends[state * WORDS + word] & outside[word]) != 0) {
                    return true;
                }
            }
            return false;
        }
    }

    /** What runs and cut runs can do; it is found when it is asked for, and kept until the program changes. */
    private static final class Runs {
        private final Program program;
        private final Values values;
        private final Walk walk;
        private final CutRuns cutRuns;
        private final Inductive inductive;
        /** The bits of what can happen from each state, in runs and in cut runs. */
        private final int[] ofRuns;
        private final int[] ofCutRuns;
        private boolean knowsRuns;
        private boolean knowsCutRuns;
        /** For each loop the number of states in the inductive part of its invariant, and of rounds. */
        private final boolean[] knowsKept;
        private final int[] kept;
        private final int[] rounds;

        Runs(Program source) {
            program = source;
            values = new Values(source);
            Steps steps = new Steps(source, values);
            long[] notes = new long[PLACES];
            walk = new Walk(source, steps, notes);
            cutRuns = new CutRuns(source, values, steps, notes);
            inductive = new Inductive(values);
            ofRuns = new int[STATES];
            ofCutRuns = new int[STATES];
            knowsKept = new boolean[LOOPS];
            kept = new int[LOOPS];
            rounds = new int[LOOPS];
        }

        void drop() {
            values.drop();
            walk.drop();
            knowsRuns = false;
            knowsCutRuns = false;
            for (int l = 0; l < LOOPS; l++) {
                knowsKept[l] = false;
            }
        }

        int statesWith(int term) {
            values.prepare();
            int many = 0;
            for (int state = 0; state < STATES; state++) {
                if (values.isTrue(term, state)) {
                    many++;
                }
            }
            return many;
        }

        void prepare(int cut) {
            values.prepare();
            if (cut == 0 && !knowsRuns) {
                walk.findOutcomes(ofRuns);
                knowsRuns = true;
            }
            if (cut == 1 && !knowsCutRuns) {
                cutRuns.findOutcomes(ofCutRuns);
                knowsCutRuns = true;
            }
        }

        boolean can(int cut, int state, int bit) {
            int[] bits = cut == 0 ? ofRuns : ofCutRuns;
            return state >= 0 && state < STATES && (bits[state] & (1 << bit)) != 0;
        }

        void search(int cut, int state) {
            values.prepare();
            walk.mark(cut, state);
        }

        boolean isReached(int row, int state) {
            return walk.isMarked(row, state);
        }

        void prepareLoop(int l) {
            values.prepare();
            if (l < 0 || l >= LOOPS || knowsKept[l]) {
                return;
            }
            cutRuns.findEnds(l, inductive.ends);
            rounds[l] = inductive.shrink(program.loopStatement(l).second);
            kept[l] = inductive.statesKept();
            knowsKept[l] = true;
        }
    }

    /** The passive form. The versions of the four variables are held in one number, 15 bits each. */
    private static final class Passive {
        private static final int BITS = 15;
        private static final long MASK = (1L << BITS) - 1;
        private static final long NOT_REACHED = -1;
        private static final int NO_TRY = -1;

        private final Program program;
        private final int[] greatest;
        private int equations;
        private int size;
        /** For the try at each depth: how many throws it catches, the versions at the first, which differ at others. */
        private final int[] throwsAt;
        private final long[] versionsAt;
        private final int[] differAt;

        Passive(Program source) {
            program = source;
            greatest = new int[VARIABLES];
            throwsAt = new int[DEEPEST + 1];
            versionsAt = new long[DEEPEST + 1];
            differAt = new int[DEEPEST + 1];
        }

        void traverse() {
            for (int v = 0; v < VARIABLES; v++) {
                greatest[v] = 0;
            }
            equations = 0;
            size = 0;
            traverseBlock(program.size > 0 ? 0 : -1, 0, NO_TRY, 0);
        }

        /** Returns the versions at the end of the block, or NOT_REACHED. */
        private long traverseBlock(int begin, long versions, int catching, int depth) {
            long now = depth > DEEPEST ? NOT_REACHED : versions;
            int row = begin;
            for (int n = 0; n < STATEMENTS && row >= 0 && now != NOT_REACHED; n++) {
                now = traverseStatement(program.at(row), now, catching, depth);
                row = program.at(row).next;
            }
            return now;
        }

        private long traverseStatement(Statement s, long now, int catching, int depth) {
            int second = program.termLength(s.second);
            size += 1 + program.termLength(s.first) + (s.isLoop() ? 3 * second : second);
            switch (s.letter) {
                case ASSIGNMENT:
                case 'h':
                case 'p':
                    return renewed(now, 1 << s.variable);
                case 't':
                    noteThrow(catching, now);
                    return NOT_REACHED;
                case 'i':
                    long then = traverseBlock(s.begin[0], now, catching, depth + 1);
                    return joined(then, traverseBlock(s.begin[1], now, catching, depth + 1));
                case 'w':
                    long inside = renewed(now, s.modified);
                    traverseBlock(s.begin[0], inside, catching, depth + 1);
                    return inside;
                case 'y':
                    return traverseTry(s, now, catching, depth);
                default:
                    return now;
            }
        }

        private long traverseTry(Statement s, long now, int catching, int depth) {
            throwsAt[depth] = 0;
            differAt[depth] = 0;
            long tried = traverseBlock(s.begin[0], now, depth, depth + 1);
            int places = throwsAt[depth];
            if (places == 0) {
                return tried;
            }
            equations += places * Integer.bitCount(differAt[depth]);
            long thrown = renewed(versionsAt[depth], differAt[depth]);
            return joined(tried, traverseBlock(s.begin[1], thrown, catching, depth + 1));
        }

        private void noteThrow(int catching, long now) {
            if (catching < 0 || catching > DEEPEST) {
                return;
            }
            if (throwsAt[catching] == 0) {
                versionsAt[catching] = now;
            }
            throwsAt[catching]++;
            differAt[catching] |= differing(versionsAt[catching], now);
        }

        private long joined(long one, long another) {
            if (one == NOT_REACHED) {
                return another;
            }
            if (another == NOT_REACHED) {
                return one;
            }
            int differ = differing(one, another);
            equations += 2 * Integer.bitCount(differ);
            return renewed(one, differ);
        }

        private static int differing(long one, long another) {
            int variables = 0;
            for (int v = 0; v < VARIABLES; v++) {
                if ((((one ^ another) >> (BITS * v)) & MASK) != 0) {
                    variables |= 1 << v;
                }
            }
            return variables;
        }

        private long renewed(long versions, int variables) {
            long now = versions;
            for (int v = 0; v < VARIABLES; v++) {
                if ((variables & (1 << v)) != 0) {
                    greatest[v]++;
                    now = (now & ~(MASK << (BITS * v))) | ((long) greatest[v] << (BITS * v));
                }
            }
            return now;
        }

        long sizeByCopying() {
            return copyBlock(program.lastOfAll, 1, 1, 0);
        }

        private long copyBlock(int last, long rest, long x, int depth) {
            long sum = rest;
            if (depth > DEEPEST) {
                return sum;
            }
            int row = last;
            for (int n = 0; n < STATEMENTS && row >= 0; n++) {
                sum = copyStatement(program.at(row), sum, x, depth);
                row = program.at(row).previous;
            }
            return sum;
        }

        private long copyStatement(Statement s, long rest, long x, int depth) {
            long first = program.termLength(s.first);
            long second = program.termLength(s.second);
            switch (s.letter) {
                case 't':
                    return x;
                case 'i':
                    long then = copyBlock(s.last[0], rest, x, depth + 1);
                    return 2 * first + then + copyBlock(s.last[1], rest, x, depth + 1) + 1;
                case 'w':
                    return 3 * second + 2 * first + copyBlock(s.last[0], second, x, depth + 1) + rest + 1;
                case 'y':
                    return copyBlock(s.last[0], rest, copyBlock(s.last[1], rest, x, depth + 1), depth + 1);
                default:
                    return rest + first + second + 1;
            }
        }
    }
}
