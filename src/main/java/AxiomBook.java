import java.util.Arrays;

/** A book of proofs in Metamath's language: its text is read, its proofs are checked, traced and told anew. */
public final class AxiomBook {
    public static final int BAD = -1;
    public static final int NO = -2;
    public static final int FULL = -3;
    public static final int OPEN = 1;

    private static final int MAX_TEXT = 8192;
    // Two tokens have a blank between them.
    private static final int MAX_TOKENS = MAX_TEXT / 2;
    private static final int MAX_SYMBOLS = 300;
    private static final int MAX_STATEMENTS = 200;
    private static final int MAX_NAMES = MAX_SYMBOLS + MAX_STATEMENTS;
    private static final int MAX_BLOCKS = 16;
    private static final int MAX_STATEMENT_SYMBOLS = 60;
    private static final int MAX_DISTINCT = 8;
    private static final int MAX_PROOF = 400;
    private static final int MAX_PAIRS = 200;
    private static final int MAX_STEPS = 1000;
    private static final int MAX_MARKS = 200;
    private static final int MAX_STACK = 100;
    private static final int MAX_THING = 200;
    private static final int MAX_OUT = 6000;
    private static final int NONE = -1;

    // The kinds of statements, as the document numbers them.
    private static final int FLOATING = 0;
    private static final int ESSENTIAL = 1;
    private static final int AXIOM = 2;
    private static final int PROVABLE = 3;

    // The faults of a text.
    private static final int WRONG_BYTE = 1;
    private static final int CUT_OFF = 2;
    private static final int MISPLACED = 3;
    private static final int WRONG_LABEL = 4;
    private static final int WRONG_DECLARATION = 5;
    private static final int WRONG_SYMBOL = 6;
    private static final int TOO_MUCH = 7;

    // The faults of a proof.
    private static final int NO_TOKEN = -1;
    private static final int NO_SUCH_LABEL = -2;
    private static final int WRONG_LETTERS = -3;
    private static final int TOO_FEW = -4;
    private static final int NOT_FLOATING = -5;
    private static final int NOT_ESSENTIAL = -6;
    private static final int NOT_DISTINCT = -7;
    private static final int NOT_ONE = -8;
    private static final int NOT_PROVED = -9;
    private static final int TOO_GREAT = -10;
    private static final int FAULT_BASE = -100;
    private static final int TRACE_OPEN = -9;

    // A set of symbols, or of statements, is a row of words.
    private static final int WORD = 64;
    private static final int SYMBOL_WORDS = (MAX_SYMBOLS + WORD - 1) / WORD;
    private static final int STATEMENT_WORDS = (MAX_STATEMENTS + WORD - 1) / WORD;

    private static final int BLANK = 32;

    private Book book = new Book();
    // THE TEXT is fed into the next book, which takes the other's place when it is read without a fault.
    private Book draft = new Book();
    private final Reader reader = new Reader(draft);
    private final Proof proof = new Proof(book);
    private final Machine checker = new Machine(book);
    // It has a stack of its own, for check() and tell() leave that of the latest trace() as it is.
    private final Machine tracer = new Machine(book);
    private final Teller teller = new Teller(book, proof);
    private Sheet told = new Sheet();
    // What is told is written here first, for the OUT stays when it would be too long.
    private Sheet blankSheet = new Sheet();
    private int latestPlace;
    private int latestStep;

    public AxiomBook() {
    }

    public int feed(long a, long b) {
        int more = bytesIn(a) + bytesIn(b);
        if (draft.length + more > MAX_TEXT) {
            return FULL;
        }
        append(a);
        append(b);
        return draft.length;
    }

    private static int bytesIn(long word) {
        int bytes = 0;
        for (int shift = 56; shift >= 0; shift -= 8) {
            if (((word >>> shift) & 255) != 0) {
                bytes++;
            }
        }
        return bytes;
    }

    private void append(long word) {
        for (int shift = 56; shift >= 0; shift -= 8) {
            int value = (int) ((word >>> shift) & 255);
            if (value != 0 && draft.length < MAX_TEXT) {
                draft.text[draft.length] = (byte) value;
                draft.length++;
            }
        }
    }

    public int read() {
        forgetAnswers();
        int fault = reader.readBook(draft);
        latestPlace = reader.faultPlace;
        if (fault == 0) {
            Book old = book;
            book = draft;
            draft = old;
        }
        draft.length = 0;
        return fault == 0 ? book.statements : -fault;
    }

    private void forgetAnswers() {
        latestStep = 0;
        tracer.stack.clear();
        told.length = 0;
    }

    public int place() {
        return latestPlace;
    }

    public int count(int what) {
        switch (what) {
            case 0:
                return book.symbols;
            case 1:
                return book.statements;
            case 2:
                return draft.length;
            case 3:
                return told.length;
            case 4:
                return tracer.stack.rows;
            default:
                return BAD;
        }
    }

    public int statement(int k, int what) {
        if (!book.isStatement(k)) {
            return BAD;
        }
        switch (what) {
            case 0:
                return book.kinds[k];
            case 1:
                return book.formulas.size(k);
            case 2:
                return book.depths[k];
            case 3:
                return book.hypotheses.size(k);
            case 4:
                return book.distinct.size(k);
            case 5:
                return book.tokens.size(k);
            default:
                return BAD;
        }
    }

    public int symbol(int k, int i) {
        return book.isStatement(k) ? book.formulas.get(k, i) : BAD;
    }

    public int name(int kind, int number, int i) {
        if (kind == 0 && number >= 0 && number < book.symbols) {
            return book.names.byteOf(number, i);
        }
        if (kind == 1 && book.isStatement(number)) {
            return book.names.byteOf(MAX_SYMBOLS + number, i);
        }
        return BAD;
    }

    public int frame(int k, int what, int i) {
        if (!book.isAssertion(k) || what < 0 || what > 2) {
            return BAD;
        }
        Rows rows = what == 0 ? book.hypotheses : book.distinct;
        if (i < 0 || i >= rows.size(k)) {
            return NO;
        }
        int item = rows.get(k, i);
        if (what == 0) {
            return item;
        }
        return what == 1 ? item / MAX_SYMBOLS : item % MAX_SYMBOLS;
    }

    public int check(int k) {
        latestStep = 0;
        if (!book.isProvable(k)) {
            return BAD;
        }
        int found = examine(k);
        latestStep = proof.at;
        return found < 0 ? FAULT_BASE + found : found;
    }

    /** 0, OPEN or a fault of the proof; where, or how many steps there are, is then in proof.at. */
    private int examine(int k) {
        int found = proof.decode(book, k);
        if (found == 0) {
            found = checker.run(book, proof, proof.steps);
        }
        return found == 0 ? checker.verdict(book, proof) : found;
    }

    public int step() {
        return latestStep;
    }

    public int trace(int k, int n) {
        latestStep = 0;
        tracer.stack.clear();
        if (!book.isProvable(k) || n < 0) {
            return BAD;
        }
        int found = proof.decode(book, k);
        if (found == 0) {
            found = tracer.run(book, proof, Math.min(n, MAX_STEPS) + 1);
        }
        latestStep = proof.at;
        if (found == 0) {
            return tracer.stack.rows;
        }
        tracer.stack.clear();
        return found == OPEN ? TRACE_OPEN : FAULT_BASE + found;
    }

    public int thing(int d, int i) {
        Rows stack = tracer.stack;
        if (d < 0 || d >= stack.rows) {
            return BAD;
        }
        int row = stack.rows - 1 - d;
        return i == -1 ? stack.size(row) : stack.get(row, i);
    }

    public int tell(int k, int form) {
        if (!book.isProvable(k) || form < 0 || form > 1) {
            return BAD;
        }
        if (examine(k) != 0) {
            return NO;
        }
        blankSheet.clear();
        teller.plant(book, proof);
        if (form == 1) {
            teller.compress(blankSheet);
            return publish();
        }
        return teller.writeOut(blankSheet) ? publish() : FULL;
    }

    public int print(int k) {
        if (!book.isStatement(k)) {
            return BAD;
        }
        blankSheet.clear();
        writeStatement(blankSheet, k);
        return publish();
    }

    private void writeStatement(Sheet sheet, int k) {
        sheet.putName(book.names, MAX_SYMBOLS + k);
        sheet.put(BLANK);
        sheet.put('$');
        sheet.put(keywordOf(book.kinds[k]));
        sheet.put(BLANK);
        int size = book.formulas.size(k);
        for (int i = 0; i < size; i++) {
            sheet.putName(book.names, book.formulas.get(k, i));
            sheet.put(BLANK);
        }
        sheet.put('$');
        sheet.put('.');
    }

    private static int keywordOf(int kind) {
        switch (kind) {
            case FLOATING:
                return 'f';
            case ESSENTIAL:
                return 'e';
            case AXIOM:
                return 'a';
            default:
                return 'p';
        }
    }

    private int publish() {
        if (blankSheet.overflowed) {
            return FULL;
        }
        Sheet old = told;
        told = blankSheet;
        blankSheet = old;
        return told.length;
    }

    public int out(int i) {
        return i >= 0 && i < told.length ? told.bytes[i] : BAD;
    }

    public int rests(int k, int i) {
        if (!book.isProvable(k)) {
            return BAD;
        }
        return book.axiomUnder(k, i);
    }

    public int find() {
        int id = book.names.lookUp(draft.text, 0, draft.length);
        draft.length = 0;
        return id >= MAX_SYMBOLS ? id - MAX_SYMBOLS : NO;
    }

    /** Rows of numbers, one behind the other. They take room only as they need it, for most books are small. */
    private static final class Rows {
        private int[] items = new int[64];
        private final int[] starts;
        private int used;
        int rows;

        Rows(int most) {
            starts = new int[most + 1];
        }

        void clear() {
            rows = 0;
            used = 0;
        }

        /** An item for the row that comes next. */
        void add(int item) {
            if (used == items.length) {
                items = Arrays.copyOf(items, 2 * used);
            }
            items[used] = item;
            used++;
        }

        void endRow() {
            if (rows + 1 < starts.length) {
                rows++;
                starts[rows] = used;
            }
        }

        int size(int row) {
            return row >= 0 && row < rows ? starts[row + 1] - starts[row] : 0;
        }

        int get(int row, int i) {
            if (row < 0 || row >= rows || i < 0 || i >= starts[row + 1] - starts[row]) {
                return BAD;
            }
            return items[starts[row] + i];
        }

        /** The items of a row, from the first one on, for the row that comes next. */
        void addFrom(Rows other, int row, int first) {
            int size = other.size(row);
            for (int i = first; i < size; i++) {
                add(other.get(row, i));
            }
        }

        /** The last row takes the place of so many rows under it. */
        void dropUnderLast(int dropped) {
            if (dropped <= 0 || dropped >= rows) {
                return;
            }
            int last = rows - 1;
            int size = size(last);
            int base = starts[last - dropped];
            System.arraycopy(items, starts[last], items, base, size);
            rows -= dropped;
            used = base + size;
            starts[rows] = used;
        }

        boolean hasRow(int row, Rows other, int otherRow) {
            int size = size(row);
            if (size != other.size(otherRow)) {
                return false;
            }
            for (int i = 0; i < size; i++) {
                if (get(row, i) != other.get(otherRow, i)) {
                    return false;
                }
            }
            return true;
        }
    }

    /**
     * A text, and where the names of symbols and statements stand in it. A symbol's id is its number, a
     * statement's MAX_SYMBOLS more: they share one table, for no name may be both.
     */
    private static final class Names {
        private static final int HEADS = 256;
        final byte[] text = new byte[MAX_TEXT];
        private final int[] heads = new int[HEADS];
        private final int[] nexts = new int[MAX_NAMES];
        private final int[] starts = new int[MAX_NAMES];
        private final int[] lengths = new int[MAX_NAMES];

        Names() {
            Arrays.fill(heads, NONE);
        }

        void clear() {
            Arrays.fill(heads, NONE);
        }

        private static int headOf(byte[] bytes, int start, int length) {
            int mix = length;
            for (int i = 0; i < length; i++) {
                mix = 31 * mix + bytes[start + i];
            }
            return (mix ^ (mix >>> 8)) & (HEADS - 1);
        }

        void add(int id, int start, int length) {
            int head = headOf(text, start, length);
            starts[id] = start;
            lengths[id] = length;
            nexts[id] = heads[head];
            heads[head] = id;
        }

        /** The id with this name, or NONE. */
        int lookUp(byte[] bytes, int start, int length) {
            int id = heads[headOf(bytes, start, length)];
            for (int n = 0; n < MAX_NAMES && id != NONE; n++) {
                if (lengths[id] == length && isSame(id, bytes, start)) {
                    return id;
                }
                id = nexts[id];
            }
            return NONE;
        }

        private boolean isSame(int id, byte[] bytes, int start) {
            for (int i = 0; i < lengths[id]; i++) {
                if (text[starts[id] + i] != bytes[start + i]) {
                    return false;
                }
            }
            return true;
        }

        int byteOf(int id, int i) {
            return i >= 0 && i < lengths[id] ? text[starts[id] + i] : BAD;
        }

        int lengthOf(int id) {
            return lengths[id];
        }
    }

    /** A text and what was read from it. */
    private static final class Book {
        final Names names = new Names();
        final byte[] text = names.text;
        int length;
        int symbols;
        final byte[] variables = new byte[MAX_SYMBOLS];
        int statements;
        final int[] kinds = new int[MAX_STATEMENTS];
        final int[] depths = new int[MAX_STATEMENTS];
        // The number of the first statement at which a hypothesis is no longer active.
        final int[] untils = new int[MAX_STATEMENTS];
        // These have a row for each statement.
        final Rows formulas = new Rows(MAX_STATEMENTS);
        final Rows tokens = new Rows(MAX_STATEMENTS);
        final Rows named = new Rows(MAX_STATEMENTS);
        final Rows hypotheses = new Rows(MAX_STATEMENTS);
        final Rows distinct = new Rows(MAX_STATEMENTS);
        final Rows activePairs = new Rows(MAX_STATEMENTS);
        final byte[] compressed = new byte[MAX_STATEMENTS];
        // The number of the proof's token behind those that are labels.
        final int[] labelEnds = new int[MAX_STATEMENTS];
        private final long[] axioms = new long[MAX_STATEMENTS * STATEMENT_WORDS];

        void clear() {
            names.clear();
            symbols = 0;
            statements = 0;
            formulas.clear();
            tokens.clear();
            named.clear();
            hypotheses.clear();
            distinct.clear();
            activePairs.clear();
        }

        boolean isStatement(int k) {
            return k >= 0 && k < statements;
        }

        boolean isAssertion(int k) {
            return isStatement(k) && kinds[k] >= AXIOM;
        }

        boolean isProvable(int k) {
            return isStatement(k) && kinds[k] == PROVABLE;
        }

        boolean isVariable(int symbol) {
            return symbol >= 0 && symbol < symbols && variables[symbol] != 0;
        }

        boolean isConstant(int symbol) {
            return symbol >= 0 && symbol < symbols && variables[symbol] == 0;
        }

        int addSymbol(boolean variable, int start, int size) {
            int number = symbols;
            names.add(number, start, size);
            variables[number] = (byte) (variable ? 1 : 0);
            symbols++;
            return number;
        }

        /** Whether token i of a proof is this one byte. */
        boolean isJust(int k, int i, int wanted) {
            int start = tokens.get(k, i);
            return start >= 0 && text[start] == wanted && !isInToken(start + 1);
        }

        boolean isInToken(int position) {
            return position < length && text[position] > BLANK;
        }

        void noteForm(int k) {
            int size = tokens.size(k);
            compressed[k] = (byte) (isJust(k, 0, '(') ? 1 : 0);
            labelEnds[k] = size;
            for (int i = size - 1; i > 0 && compressed[k] != 0; i--) {
                if (isJust(k, i, ')')) {
                    labelEnds[k] = i;
                }
            }
        }

        /** Finds out on which axioms a statement rests, once and for all: those it names were noted before. */
        void noteAxioms(int k) {
            int base = k * STATEMENT_WORDS;
            for (int w = 0; w < STATEMENT_WORDS; w++) {
                axioms[base + w] = 0L;
            }
            for (int i = 0; i < labelEnds[k]; i++) {
                int label = named.get(k, i);
                if (label >= 0 && kinds[label] == AXIOM) {
                    axioms[base + label / WORD] |= 1L << (label % WORD);
                } else if (label >= 0 && kinds[label] == PROVABLE) {
                    for (int w = 0; w < STATEMENT_WORDS; w++) {
                        axioms[base + w] |= axioms[label * STATEMENT_WORDS + w];
                    }
                }
            }
        }

        int axiomUnder(int k, int i) {
            int left = i;
            for (int label = 0; label < k && left >= 0; label++) {
                long word = axioms[k * STATEMENT_WORDS + label / WORD];
                if (((word >>> (label % WORD)) & 1L) != 0) {
                    if (left == 0) {
                        return label;
                    }
                    left--;
                }
            }
            return NO;
        }
    }

    /** Cuts a text into tokens and passes over its comments. */
    private static final class Scanner {
        static final int PLAIN = 0;
        static final int STRANGE = -1;
        int start;
        int end;
        int fault;
        private byte[] text;
        private int length;

        Scanner(byte[] first) {
            text = first;
        }

        void open(byte[] bytes, int size) {
            text = bytes;
            length = size;
            start = 0;
            end = 0;
            fault = 0;
        }

        /** Goes to the next token outside comments; if there is none, start and fault tell why. */
        boolean advance() {
            boolean inComment = false;
            for (int n = 0; n <= MAX_TOKENS; n++) {
                cut();
                if (start == length) {
                    fault = inComment ? CUT_OFF : 0;
                    return false;
                }
                if (hasWrongByte()) {
                    fault = WRONG_BYTE;
                    return false;
                }
                if (!inComment && !isDollarAnd('(')) {
                    return true;
                }
                if (inComment && !isDollarAnd(')') && hasCommentMark()) {
                    fault = MISPLACED;
                    return false;
                }
                inComment = !(inComment && isDollarAnd(')'));
            }
            return false;
        }

        private void cut() {
            start = end;
            while (start < length && isBlank(text[start])) {
                start++;
            }
            end = start;
            while (end < length && !isBlank(text[end])) {
                end++;
            }
        }

        private static boolean isBlank(int value) {
            return value == 32 || value == 9 || value == 10 || value == 12 || value == 13;
        }

        private boolean hasWrongByte() {
            for (int i = start; i < end; i++) {
                if (text[i] < 33 || text[i] > 126) {
                    return true;
                }
            }
            return false;
        }

        private boolean isDollarAnd(int second) {
            return end - start == 2 && text[start] == '$' && text[start + 1] == second;
        }

        private boolean hasCommentMark() {
            for (int i = start; i + 1 < end; i++) {
                if (text[i] == '$' && (text[i + 1] == '(' || text[i + 1] == ')')) {
                    return true;
                }
            }
            return false;
        }

        /** A KEYWORD's second byte, PLAIN for a token without $, STRANGE for another one with it. */
        int word() {
            for (int i = start; i < end; i++) {
                if (text[i] == '$') {
                    return keyword();
                }
            }
            return PLAIN;
        }

        private int keyword() {
            if (end - start != 2 || text[start] != '$') {
                return STRANGE;
            }
            switch (text[start + 1]) {
                case 'c': case 'v': case 'f': case 'e': case 'd': case 'a': case 'p':
                case '=': case '.': case '{': case '}':
                    return text[start + 1];
                default:
                    return STRANGE;
            }
        }

        boolean isLabel() {
            for (int i = start; i < end; i++) {
                int c = text[i];
                boolean letter = c >= 'a' && c <= 'z' || c >= 'A' && c <= 'Z';
                boolean digit = c >= '0' && c <= '9';
                if (!letter && !digit && c != '.' && c != '-' && c != '_') {
                    return false;
                }
            }
            return true;
        }
    }

    /** What is active where the reader stands. */
    private static final class Scope {
        int depth;
        private final int[] outerVariables = new int[MAX_BLOCKS];
        private final int[] outerHypotheses = new int[MAX_BLOCKS];
        private final int[] variables = new int[MAX_SYMBOLS];
        private int variableCount;
        private final byte[] active = new byte[MAX_SYMBOLS];
        private final byte[] floating = new byte[MAX_SYMBOLS];
        // How often a symbol stands in active $e.
        private final int[] needs = new int[MAX_SYMBOLS];
        private final int[] hypotheses = new int[MAX_STATEMENTS];
        private int hypothesisCount;
        // Active pairs, as lesser * MAX_SYMBOLS + greater, kept in that order.
        private final int[] pairs = new int[MAX_PAIRS];
        private final int[] pairDepths = new int[MAX_PAIRS];
        private int pairCount;

        void clear() {
            depth = 0;
            variableCount = 0;
            hypothesisCount = 0;
            pairCount = 0;
            Arrays.fill(active, (byte) 0);
            Arrays.fill(floating, (byte) 0);
            Arrays.fill(needs, 0);
        }

        boolean openBlock() {
            if (depth == MAX_BLOCKS) {
                return false;
            }
            outerVariables[depth] = variableCount;
            outerHypotheses[depth] = hypothesisCount;
            depth++;
            return true;
        }

        void closeBlock(Book book) {
            dropPairs();
            depth--;
            for (int i = outerHypotheses[depth]; i < hypothesisCount; i++) {
                dropHypothesis(book, hypotheses[i]);
            }
            hypothesisCount = outerHypotheses[depth];
            for (int i = outerVariables[depth]; i < variableCount; i++) {
                active[variables[i]] = 0;
            }
            variableCount = outerVariables[depth];
        }

        private void dropHypothesis(Book book, int h) {
            book.untils[h] = book.statements;
            if (book.kinds[h] == FLOATING) {
                floating[book.formulas.get(h, 1)] = 0;
            } else {
                addNeeds(book, h, -1);
            }
        }

        private void dropPairs() {
            int kept = 0;
            for (int i = 0; i < pairCount; i++) {
                if (pairDepths[i] < depth) {
                    pairs[kept] = pairs[i];
                    pairDepths[kept] = pairDepths[i];
                    kept++;
                }
            }
            pairCount = kept;
        }

        boolean isActive(int symbol) {
            return symbol >= 0 && symbol < MAX_SYMBOLS && active[symbol] != 0;
        }

        boolean isTyped(int symbol) {
            return symbol >= 0 && symbol < MAX_SYMBOLS && floating[symbol] != 0;
        }

        void activate(int variable) {
            active[variable] = 1;
            variables[variableCount] = variable;
            variableCount++;
        }

        void addHypothesis(Book book, int h) {
            book.untils[h] = MAX_STATEMENTS;
            hypotheses[hypothesisCount] = h;
            hypothesisCount++;
            if (book.kinds[h] == FLOATING) {
                floating[book.formulas.get(h, 1)] = 1;
            } else {
                addNeeds(book, h, 1);
            }
        }

        private void addNeeds(Book book, int k, int more) {
            int size = book.formulas.size(k);
            for (int i = 0; i < size; i++) {
                needs[book.formulas.get(k, i)] += more;
            }
        }

        /** Makes a pair active; false if there are too many. */
        boolean addPair(int one, int other) {
            int pair = Math.min(one, other) * MAX_SYMBOLS + Math.max(one, other);
            int at = 0;
            while (at < pairCount && pairs[at] < pair) {
                at++;
            }
            if (at < pairCount && pairs[at] == pair) {
                return true;
            }
            if (pairCount == MAX_PAIRS) {
                return false;
            }
            System.arraycopy(pairs, at, pairs, at + 1, pairCount - at);
            System.arraycopy(pairDepths, at, pairDepths, at + 1, pairCount - at);
            pairs[at] = pair;
            pairDepths[at] = depth;
            pairCount++;
            return true;
        }

        void makeFrame(Book book, int k) {
            addNeeds(book, k, 1);
            for (int i = 0; i < hypothesisCount; i++) {
                int h = hypotheses[i];
                if (book.kinds[h] == ESSENTIAL || needs[book.formulas.get(h, 1)] > 0) {
                    book.hypotheses.add(h);
                }
            }
            boolean provable = book.kinds[k] == PROVABLE;
            for (int i = 0; i < pairCount; i++) {
                if (needs[pairs[i] / MAX_SYMBOLS] > 0 && needs[pairs[i] % MAX_SYMBOLS] > 0) {
                    book.distinct.add(pairs[i]);
                }
                if (provable) {
                    book.activePairs.add(pairs[i]);
                }
            }
            addNeeds(book, k, -1);
        }
    }

    /** Reads a book from its text, token by token. */
    private static final class Reader {
        private static final int OUTSIDE = 0;
        private static final int LABELLED = 1;
        private static final int DECLARING = 2;
        private static final int SEPARATING = 3;
        private static final int STATING = 4;
        private static final int PROVING = 5;
        private static final int ENDED = 6;
        int faultPlace;
        private Book book;
        private final Scanner scanner;
        private final Scope scope = new Scope();
        private int state;
        private boolean variable;
        private int kind;
        private int labelStart;
        private int labelLength;
        // How many tokens of the statement, or of its proof, were taken.
        private int taken;
        private final int[] apart = new int[MAX_DISTINCT];

        Reader(Book first) {
            book = first;
            scanner = new Scanner(first.text);
        }

        /** The fault of the text, or 0. */
        int readBook(Book draft) {
            book = draft;
            book.clear();
            scope.clear();
            scanner.open(book.text, book.length);
            state = OUTSIDE;
            int fault = 0;
            for (int n = 0; n <= MAX_TOKENS && fault == 0 && scanner.advance(); n++) {
                int word = scanner.word();
                switch (state) {
                    case OUTSIDE:
                        fault = word == Scanner.PLAIN ? takeLabel() : takeOutside(word);
                        break;
                    case LABELLED:
                        fault = takeKind(word);
                        break;
                    case DECLARING:
                        fault = takeDeclared(word);
                        break;
                    case SEPARATING:
                        fault = takeSeparated(word);
                        break;
                    case STATING:
                        fault = word == Scanner.PLAIN ? takeSymbol() : takeEnd(word);
                        break;
                    default:
                        fault = takeProofToken(word);
                }
                if (state == ENDED) {
                    endStatement();
                }
            }
            faultPlace = scanner.start;
            if (fault != 0 || scanner.fault != 0) {
                return fault != 0 ? fault : scanner.fault;
            }
            return state != OUTSIDE || scope.depth > 0 ? CUT_OFF : 0;
        }

        private int takeLabel() {
            if (book.statements == MAX_STATEMENTS) {
                return TOO_MUCH;
            }
            if (!scanner.isLabel() || namedByToken() != NONE) {
                return WRONG_LABEL;
            }
            labelStart = scanner.start;
            labelLength = scanner.end - scanner.start;
            state = LABELLED;
            return 0;
        }

        private int namedByToken() {
            return book.names.lookUp(book.text, scanner.start, scanner.end - scanner.start);
        }

        private int takeOutside(int word) {
            switch (word) {
                case 'c':
                case 'v':
                    variable = word == 'v';
                    return variable || scope.depth == 0 ? begin(DECLARING) : MISPLACED;
                case 'd':
                    return begin(SEPARATING);
                case '{':
                    return scope.openBlock() ? 0 : TOO_MUCH;
                case '}':
                    if (scope.depth == 0) {
                        return MISPLACED;
                    }
                    scope.closeBlock(book);
                    return 0;
                default:
                    return MISPLACED;
            }
        }

        private int begin(int next) {
            state = next;
            taken = 0;
            return 0;
        }

        private int takeKind(int word) {
            switch (word) {
                case 'f':
                    kind = FLOATING;
                    return begin(STATING);
                case 'e':
                    kind = ESSENTIAL;
                    return begin(STATING);
                case 'a':
                    kind = AXIOM;
                    return begin(STATING);
                case 'p':
                    kind = PROVABLE;
                    return begin(STATING);
                default:
                    return MISPLACED;
            }
        }

        private int takeDeclared(int word) {
            if (word == '.' && taken > 0) {
                return begin(OUTSIDE);
            }
            if (word != Scanner.PLAIN) {
                return MISPLACED;
            }
            int id = namedByToken();
            boolean known = id != NONE && id < MAX_SYMBOLS;
            if (!known && book.symbols == MAX_SYMBOLS) {
                return TOO_MUCH;
            }
            boolean again = variable && book.isVariable(id) && !scope.isActive(id);
            if (id != NONE && !again) {
                return WRONG_DECLARATION;
            }
            if (!again) {
                id = book.addSymbol(variable, scanner.start, scanner.end - scanner.start);
            }
            if (variable) {
                scope.activate(id);
            }
            taken++;
            return 0;
        }

        private int takeSeparated(int word) {
            if (word == '.' && taken >= 2) {
                return begin(OUTSIDE);
            }
            if (word != Scanner.PLAIN) {
                return MISPLACED;
            }
            if (taken == MAX_DISTINCT) {
                return TOO_MUCH;
            }
            int id = namedByToken();
            if (!scope.isActive(id)) {
                return WRONG_SYMBOL;
            }
            for (int i = 0; i < taken; i++) {
                if (apart[i] == id) {
                    return WRONG_SYMBOL;
                }
            }
            for (int i = 0; i < taken; i++) {
                if (!scope.addPair(apart[i], id)) {
                    return TOO_MUCH;
                }
            }
            apart[taken] = id;
            taken++;
            return 0;
        }

        private int takeSymbol() {
            if (kind == FLOATING && taken == 2) {
                return MISPLACED;
            }
            if (taken == MAX_STATEMENT_SYMBOLS) {
                return TOO_MUCH;
            }
            int id = namedByToken();
            if (!mayStand(id)) {
                return WRONG_SYMBOL;
            }
            book.formulas.add(id);
            taken++;
            return 0;
        }

        private boolean mayStand(int id) {
            if (taken == 0) {
                return book.isConstant(id);
            }
            if (kind == FLOATING) {
                return scope.isActive(id) && !scope.isTyped(id);
            }
            return book.isConstant(id) || scope.isTyped(id);
        }

        private int takeEnd(int word) {
            int least = kind == FLOATING ? 2 : 1;
            int due = kind == PROVABLE ? '=' : '.';
            if (word != due || taken < least) {
                return MISPLACED;
            }
            return begin(kind == PROVABLE ? PROVING : ENDED);
        }

        private int takeProofToken(int word) {
            if (word == '.') {
                return begin(ENDED);
            }
            if (word != Scanner.PLAIN) {
                return MISPLACED;
            }
            if (taken == MAX_PROOF) {
                return TOO_MUCH;
            }
            int id = namedByToken();
            book.tokens.add(scanner.start);
            book.named.add(id >= MAX_SYMBOLS ? id - MAX_SYMBOLS : NONE);
            taken++;
            return 0;
        }

        private void endStatement() {
            int k = book.statements;
            book.kinds[k] = kind;
            book.depths[k] = scope.depth;
            book.names.add(MAX_SYMBOLS + k, labelStart, labelLength);
            book.formulas.endRow();
            book.tokens.endRow();
            book.named.endRow();
            if (kind >= AXIOM) {
                scope.makeFrame(book, k);
            } else {
                scope.addHypothesis(book, k);
            }
            book.hypotheses.endRow();
            book.distinct.endRow();
            book.activePairs.endRow();
            if (kind == PROVABLE) {
                book.noteForm(k);
                book.noteAxioms(k);
            }
            book.statements++;
            state = OUTSIDE;
        }
    }

    /** The steps of a proof, whichever way it is written. */
    private static final class Proof {
        // No number this great names anything; it keeps what U .. Y make from running over.
        private static final int GREAT = 100000;
        int owner;
        int steps;
        int at;
        // The statement that a step names, or -1 less the number of a mark.
        final int[] names = new int[MAX_STEPS];
        final byte[] marked = new byte[MAX_STEPS];
        private int marks;
        private Book book;
        // What the numbers from 1 on name, but for marks: statements before the owner, each once.
        private final int[] known = new int[MAX_STATEMENTS];
        private int knownCount;
        private final byte[] isKnown = new byte[MAX_STATEMENTS];
        private int prefix;
        private boolean inNumber;
        private boolean mayMark;

        Proof(Book first) {
            book = first;
        }

        /** 0, OPEN, or a fault, with its place. */
        int decode(Book from, int k) {
            book = from;
            owner = k;
            steps = 0;
            marks = 0;
            at = 0;
            if (isOpen()) {
                return OPEN;
            }
            if (book.tokens.size(k) == 0) {
                return NO_TOKEN;
            }
            boolean compressed = book.compressed[k] != 0;
            int found = compressed ? decodeList() : decodeLabels();
            if (found == 0 && compressed) {
                found = decodeLetters();
            }
            if (found == 0) {
                at = steps;
            }
            return found;
        }

        private boolean isOpen() {
            int size = book.tokens.size(owner);
            for (int i = 0; i < size; i++) {
                if (book.isJust(owner, i, '?')) {
                    return true;
                }
            }
            for (int i = book.labelEnds[owner]; i < size; i++) {
                for (int p = book.tokens.get(owner, i); p < book.length && book.isInToken(p); p++) {
                    if (book.text[p] == '?') {
                        return true;
                    }
                }
            }
            return false;
        }

        private boolean mayName(int label) {
            return label >= 0 && label < owner && (book.kinds[label] >= AXIOM || owner < book.untils[label]);
        }

        private int decodeLabels() {
            int size = book.tokens.size(owner);
            for (int i = 0; i < size; i++) {
                int label = book.named.get(owner, i);
                if (!mayName(label)) {
                    return fail(NO_SUCH_LABEL, i);
                }
                addStep(label);
            }
            return 0;
        }

        private int fail(int fault, int place) {
            at = place;
            return fault;
        }

        private void addStep(int name) {
            names[steps] = name;
            marked[steps] = 0;
            steps++;
        }

        private int decodeList() {
            knowHypotheses();
            int close = book.labelEnds[owner];
            for (int i = 1; i < close; i++) {
                int label = book.named.get(owner, i);
                if (!mayName(label) || isKnown[label] != 0) {
                    return fail(NO_SUCH_LABEL, i);
                }
                know(label);
            }
            return close == book.tokens.size(owner) ? fail(WRONG_LETTERS, close) : 0;
        }

        private void knowHypotheses() {
            knownCount = 0;
            Arrays.fill(isKnown, (byte) 0);
            int size = book.hypotheses.size(owner);
            for (int i = 0; i < size; i++) {
                know(book.hypotheses.get(owner, i));
            }
        }

        private void know(int label) {
            known[knownCount] = label;
            knownCount++;
            isKnown[label] = 1;
        }

        private int decodeLetters() {
            prefix = 0;
            inNumber = false;
            mayMark = false;
            int letters = 0;
            int size = book.tokens.size(owner);
            for (int i = book.labelEnds[owner] + 1; i < size; i++) {
                for (int p = book.tokens.get(owner, i); p < book.length && book.isInToken(p); p++) {
                    int fault = takeLetter(book.text[p]);
                    if (fault != 0) {
                        return fail(fault, letters);
                    }
                    letters++;
                }
            }
            return inNumber || letters == 0 ? fail(WRONG_LETTERS, letters) : 0;
        }

        private int takeLetter(int letter) {
            if (letter < 'A' || letter > 'Z') {
                return WRONG_LETTERS;
            }
            if (letter == 'Z') {
                return mark();
            }
            mayMark = letter < 'U';
            inNumber = !mayMark;
            if (inNumber) {
                prefix = Math.min(5 * prefix + letter - 'U' + 1, GREAT);
                return 0;
            }
            int number = 20 * prefix + letter - 'A' + 1;
            prefix = 0;
            return takeNumber(number);
        }

        private int mark() {
            if (!mayMark) {
                return WRONG_LETTERS;
            }
            if (marks == MAX_MARKS) {
                return TOO_GREAT;
            }
            marked[steps - 1] = 1;
            marks++;
            mayMark = false;
            return 0;
        }

        private int takeNumber(int number) {
            if (number > knownCount + marks) {
                return WRONG_LETTERS;
            }
            if (steps == MAX_STEPS) {
                return TOO_GREAT;
            }
            addStep(number <= knownCount ? known[number - 1] : knownCount - number);
            return 0;
        }
    }

    /** Runs the steps of a proof on a stack. */
    private static final class Machine {
        // One more while what a step makes stands above what it took.
        final Rows stack = new Rows(MAX_STACK + 1);
        private final Rows marks = new Rows(MAX_MARKS);
        private Book book;
        // For a variable of the assertion: the row on the stack that stands for it, behind its constant.
        private final int[] standing = new int[MAX_SYMBOLS];
        // For each variable those with which it is an active pair.
        private final long[] partners = new long[MAX_SYMBOLS * SYMBOL_WORDS];
        private final long[] others = new long[SYMBOL_WORDS];

        Machine(Book first) {
            book = first;
        }

        /** Runs the first steps; 0 or a fault, with its place in proof.at. */
        int run(Book from, Proof proof, int most) {
            book = from;
            stack.clear();
            marks.clear();
            notePartners(proof.owner);
            int end = Math.min(most, proof.steps);
            for (int i = 0; i < end; i++) {
                int name = proof.names[i];
                boolean assertion = name >= 0 && book.kinds[name] >= AXIOM;
                int fault = assertion ? apply(name) : push(name);
                if (fault != 0) {
                    proof.at = i;
                    return fault;
                }
                if (proof.marked[i] != 0) {
                    marks.addFrom(stack, stack.rows - 1, 0);
                    marks.endRow();
                }
            }
            return 0;
        }

        /** What is wrong with the stack when all steps were run. */
        int verdict(Book from, Proof proof) {
            if (stack.rows != 1) {
                return NOT_ONE;
            }
            return stack.hasRow(0, from.formulas, proof.owner) ? 0 : NOT_PROVED;
        }

        private void notePartners(int owner) {
            Arrays.fill(partners, 0L);
            int size = book.activePairs.size(owner);
            for (int i = 0; i < size; i++) {
                int pair = book.activePairs.get(owner, i);
                addPartner(pair / MAX_SYMBOLS, pair % MAX_SYMBOLS);
                addPartner(pair % MAX_SYMBOLS, pair / MAX_SYMBOLS);
            }
        }

        private void addPartner(int one, int other) {
            partners[one * SYMBOL_WORDS + other / WORD] |= 1L << (other % WORD);
        }

        /** Puts on what a hypothesis is, or what a marked step did. */
        private int push(int name) {
            if (stack.rows == MAX_STACK) {
                return TOO_GREAT;
            }
            if (name < 0) {
                stack.addFrom(marks, -1 - name, 0);
            } else {
                stack.addFrom(book.formulas, name, 0);
            }
            stack.endRow();
            return 0;
        }

        private int apply(int assertion) {
            int needed = book.hypotheses.size(assertion);
            int base = stack.rows - needed;
            if (base < 0) {
                return TOO_FEW;
            }
            for (int i = 0; i < needed; i++) {
                int fault = fit(book.hypotheses.get(assertion, i), base + i);
                if (fault != 0) {
                    return fault;
                }
            }
            if (!keepsApart(assertion)) {
                return NOT_DISTINCT;
            }
            if (base == MAX_STACK || sizeOf(assertion) > MAX_THING) {
                return TOO_GREAT;
            }
            pushInstance(assertion);
            stack.dropUnderLast(needed);
            return 0;
        }

        private int fit(int hypothesis, int row) {
            if (book.kinds[hypothesis] == ESSENTIAL) {
                return isInstance(hypothesis, row) ? 0 : NOT_ESSENTIAL;
            }
            if (stack.get(row, 0) != book.formulas.get(hypothesis, 0)) {
                return NOT_FLOATING;
            }
            standing[book.formulas.get(hypothesis, 1)] = row;
            return 0;
        }

        private boolean isInstance(int hypothesis, int row) {
            int at = 0;
            int size = book.formulas.size(hypothesis);
            for (int i = 0; i < size; i++) {
                int symbol = book.formulas.get(hypothesis, i);
                if (!book.isVariable(symbol)) {
                    if (stack.get(row, at) != symbol) {
                        return false;
                    }
                    at++;
                    continue;
                }
                int length = stack.size(standing[symbol]);
                for (int j = 1; j < length; j++) {
                    if (stack.get(row, at) != stack.get(standing[symbol], j)) {
                        return false;
                    }
                    at++;
                }
            }
            return at == stack.size(row);
        }

        private boolean keepsApart(int assertion) {
            int size = book.distinct.size(assertion);
            for (int i = 0; i < size; i++) {
                int pair = book.distinct.get(assertion, i);
                if (!areApart(standing[pair / MAX_SYMBOLS], standing[pair % MAX_SYMBOLS])) {
                    return false;
                }
            }
            return true;
        }

        /** No variable is its own partner, so one that stands in both rows is found here, too. */
        private boolean areApart(int row, int otherRow) {
            Arrays.fill(others, 0L);
            int size = stack.size(otherRow);
            for (int i = 1; i < size; i++) {
                int symbol = stack.get(otherRow, i);
                if (book.isVariable(symbol)) {
                    others[symbol / WORD] |= 1L << (symbol % WORD);
                }
            }
            size = stack.size(row);
            for (int i = 1; i < size; i++) {
                int symbol = stack.get(row, i);
                if (book.isVariable(symbol) && !isPartnerOfOthers(symbol)) {
                    return false;
                }
            }
            return true;
        }

        private boolean isPartnerOfOthers(int symbol) {
            for (int w = 0; w < SYMBOL_WORDS; w++) {
                if ((others[w] & ~partners[symbol * SYMBOL_WORDS + w]) != 0) {
                    return false;
                }
            }
            return true;
        }

        private int sizeOf(int assertion) {
            int sum = 0;
            int size = book.formulas.size(assertion);
            for (int i = 0; i < size; i++) {
                int symbol = book.formulas.get(assertion, i);
                sum += book.isVariable(symbol) ? stack.size(standing[symbol]) - 1 : 1;
            }
            return sum;
        }

        private void pushInstance(int assertion) {
            int size = book.formulas.size(assertion);
            for (int i = 0; i < size; i++) {
                int symbol = book.formulas.get(assertion, i);
                if (book.isVariable(symbol)) {
                    stack.addFrom(stack, standing[symbol], 1);
                } else {
                    stack.add(symbol);
                }
            }
            stack.endRow();
        }
    }

    /** Bytes that are told. */
    private static final class Sheet {
        final byte[] bytes = new byte[MAX_OUT];
        int length;
        boolean overflowed;

        void clear() {
            length = 0;
            overflowed = false;
        }

        void put(int value) {
            if (length == MAX_OUT) {
                overflowed = true;
                return;
            }
            bytes[length] = (byte) value;
            length++;
        }

        void putName(Names names, int id) {
            int size = names.lengthOf(id);
            for (int i = 0; i < size; i++) {
                put(names.byteOf(id, i));
            }
        }
    }

    /**
     * Tells a right proof anew, from its tree. Steps that are like one another are one node; nodes are numbered as
     * they are first made, and in this order they also come first in what is told.
     */
    private static final class Teller {
        private static final int HEADS = 256;
        // A told step is come to once from above, and left once.
        private static final int MAX_TURNS = 4 * MAX_STEPS;
        private Book book;
        private Proof proof;
        private int nodes;
        private int root;
        private final int[] labels = new int[MAX_STEPS];
        private final Rows taken = new Rows(MAX_STEPS);
        // By how many nodes, and how often, a node is taken.
        private final int[] uses = new int[MAX_STEPS];
        private final int[] heads = new int[HEADS];
        private final int[] nexts = new int[MAX_STEPS];
        private final int[] markedNodes = new int[MAX_MARKS];
        private final int[] stack = new int[MAX_STEPS];
        // For each node on the way from the root: how many of those it takes were told.
        private final int[] done = new int[MAX_STEPS];
        private int depth;
        // What letters name a statement, or a told node; 0 for none yet.
        private final int[] labelNumbers = new int[MAX_STATEMENTS];
        private final int[] nodeNumbers = new int[MAX_STEPS];
        private int numbers;
        private final int[] digits = new int[16];

        Teller(Book first, Proof firstProof) {
            book = first;
            proof = firstProof;
        }

        /** Makes the tree of a proof that was run without a fault. */
        void plant(Book from, Proof right) {
            book = from;
            proof = right;
            nodes = 0;
            taken.clear();
            Arrays.fill(heads, NONE);
            int marks = 0;
            int top = 0;
            for (int i = 0; i < proof.steps; i++) {
                int name = proof.names[i];
                int needed = name < 0 ? 0 : book.hypotheses.size(name);
                int node = name < 0 ? markedNodes[-1 - name] : nodeOf(name, top - needed, needed);
                top -= needed;
                stack[top] = node;
                top++;
                if (proof.marked[i] != 0) {
                    markedNodes[marks] = node;
                    marks++;
                }
            }
            root = stack[0];
        }

        private int nodeOf(int label, int base, int size) {
            int mix = label;
            for (int i = 0; i < size; i++) {
                mix = 31 * mix + stack[base + i];
            }
            int head = (mix ^ (mix >>> 8)) & (HEADS - 1);
            int node = heads[head];
            for (int n = 0; n < MAX_STEPS && node != NONE; n++) {
                if (labels[node] == label && takesStack(node, base)) {
                    return node;
                }
                node = nexts[node];
            }
            return addNode(label, base, size, head);
        }

        private boolean takesStack(int node, int base) {
            int size = taken.size(node);
            for (int i = 0; i < size; i++) {
                if (taken.get(node, i) != stack[base + i]) {
                    return false;
                }
            }
            return true;
        }

        private int addNode(int label, int base, int size, int head) {
            int node = nodes;
            labels[node] = label;
            uses[node] = 0;
            nexts[node] = heads[head];
            heads[head] = node;
            for (int i = 0; i < size; i++) {
                taken.add(stack[base + i]);
                uses[stack[base + i]]++;
            }
            taken.endRow();
            nodes++;
            return node;
        }

        /** Written out; false if there are too many steps. */
        boolean writeOut(Sheet sheet) {
            int steps = 0;
            enterRoot();
            for (int turn = 0; turn < MAX_TURNS && depth > 0; turn++) {
                int next = nextTaken();
                if (next != NONE) {
                    enter(next);
                    continue;
                }
                if (steps == MAX_STEPS) {
                    return false;
                }
                if (steps > 0) {
                    sheet.put(BLANK);
                }
                sheet.putName(book.names, MAX_SYMBOLS + labels[stack[depth - 1]]);
                steps++;
                depth--;
            }
            return true;
        }

        private void enterRoot() {
            depth = 0;
            enter(root);
        }

        private void enter(int node) {
            stack[depth] = node;
            done[depth] = 0;
            depth++;
        }

        /** The next one that the uppermost node takes, or NONE. */
        private int nextTaken() {
            int top = depth - 1;
            int next = taken.get(stack[top], done[top]);
            done[top]++;
            return next;
        }

        /** Compressed; it never has more steps than the proof itself. */
        void compress(Sheet sheet) {
            numberLabels(sheet);
            Arrays.fill(nodeNumbers, 0);
            enterRoot();
            for (int turn = 0; turn < MAX_TURNS && depth > 0; turn++) {
                int next = nextTaken();
                if (next == NONE) {
                    leave(sheet);
                } else if (nodeNumbers[next] > 0) {
                    putNumber(sheet, nodeNumbers[next]);
                } else {
                    enter(next);
                }
            }
        }

        private void numberLabels(Sheet sheet) {
            Arrays.fill(labelNumbers, 0);
            numbers = 0;
            int size = book.hypotheses.size(proof.owner);
            for (int i = 0; i < size; i++) {
                numbers++;
                labelNumbers[book.hypotheses.get(proof.owner, i)] = numbers;
            }
            sheet.put('(');
            sheet.put(BLANK);
            for (int node = 0; node < nodes; node++) {
                if (labelNumbers[labels[node]] == 0) {
                    numbers++;
                    labelNumbers[labels[node]] = numbers;
                    sheet.putName(book.names, MAX_SYMBOLS + labels[node]);
                    sheet.put(BLANK);
                }
            }
            sheet.put(')');
            sheet.put(BLANK);
        }

        private void leave(Sheet sheet) {
            int node = stack[depth - 1];
            depth--;
            putNumber(sheet, labelNumbers[labels[node]]);
            if (taken.size(node) > 0 && uses[node] > 1) {
                sheet.put('Z');
                numbers++;
                nodeNumbers[node] = numbers;
            }
        }

        private void putNumber(Sheet sheet, int number) {
            int size = 0;
            int prefix = (number - 1) / 20;
            while (prefix > 0 && size < digits.length) {
                digits[size] = 'U' + (prefix - 1) % 5;
                size++;
                prefix = (prefix - 1) / 5;
            }
            for (int i = size - 1; i >= 0; i--) {
                sheet.put(digits[i]);
            }
            sheet.put('A' + (number - 1) % 20);
        }
    }
}
