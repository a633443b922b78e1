import java.util.Arrays;

/**
 * Programs of two levels over a list of ints that is edited in batches.
 *
 * <p>Behind each batch the output and the steps have to be those of a run from the very beginning.
 * A run is short by its limit, so it is made from the beginning each time: no trace is kept that could
 * ever tell something else than such a run.
 */
public final class LevelFlow {

    public static final int NONE = -1;

    private static final int TAPE_ROOM = 8192;
    private static final int INPUT_ROOM = 64;
    private static final int BATCH_ROOM = 32;
    private static final int STEP_LIMIT = 6000;

    private static final int DEFINITION_ROOM = 64;
    private static final int PARAMETER_ROOM = 8;
    private static final int VARIABLE_ROOM = 24;

    /** An expression has two bytes of text at least, with what has to stand beside it. */
    private static final int NODE_ROOM = TAPE_ROOM / 2 + 1;

    /** A cell is made by a cons, which takes three steps, or stands for an int of the input. */
    private static final int CELL_ROOM = STEP_LIMIT / 3 + INPUT_ROOM + 1;

    /** What is on a stack of a run has taken a step to come there; main's parameter has not. */
    private static final int STACK_ROOM = STEP_LIMIT + 1;

    /** Far above the turns that a text of TAPE_ROOM bytes, or a run of STEP_LIMIT steps, can need. */
    private static final int MANY_TURNS = 1000000;

    private static final int BAD_BYTES = 1;
    private static final int BAD_TOKEN = 2;
    private static final int EARLY_END = 3;
    private static final int NO_MAIN = 4;
    private static final int NOT_THERE = 5;
    private static final int OTHER_TYPE = 6;
    private static final int TOO_LONG = 7;

    /** Two, so that a text with a fault is read into the one that is not in use. */
    private Program program = new Program();
    private Program spare = new Program();

    private final IntRow tape = new IntRow(TAPE_ROOM);
    private final Fault fault = new Fault();
    private final Lexer lexer = new Lexer(tape);
    private final Reader reader = new Reader(lexer, fault, spare);
    private final Checker checker = new Checker(lexer, fault, spare);
    private final Machine machine = new Machine(program);
    private final IntRow input = new IntRow(INPUT_ROOM);
    private final Batch batch = new Batch();
    private final IntRow output = new IntRow(CELL_ROOM);

    private boolean hasProgram;
    private int steps;
    private int applied;

    public LevelFlow() {
    }

    public boolean giveText(long v, int n) {
        if (n < 1 || n > 8 || tape.size() + n > TAPE_ROOM) {
            return false;
        }
        for (int left = n - 1; left >= 0; left--) {
            tape.push((int) (v >>> (8 * left)) & 255);
        }
        return true;
    }

    public int takeProgram() {
        fault.clear();
        reader.read(spare);
        if (!fault.isThere()) {
            checker.check(spare);
        }
        if (!fault.isThere()) {
            startSpare();
        }
        tape.cut(0);
        batch.restart(input);
        return fault.kind();
    }

    public boolean insertAhead(int i, int v) {
        return batch.insert(i, v);
    }

    public boolean replaceAt(int i, int v) {
        return batch.replace(i, v);
    }

    public boolean deleteFrom(int i, int n) {
        return batch.delete(i, n);
    }

    public boolean reverseFrom(int i, int n) {
        return batch.reverse(i, n);
    }

    public void dropBatch() {
        batch.restart(input);
    }

    public int applyBatch() {
        if (!hasProgram) {
            acceptDraft();
            return NONE;
        }
        if (!machine.run(program, batch.draft())) {
            return -TOO_LONG;
        }
        acceptDraft();
        keepRun();
        applied++;
        return output.size();
    }

    public int outputAt(int i) throws IndexOutOfBoundsException {
        return elementOf(output, i);
    }

    public int inputAt(int i, boolean draft) throws IndexOutOfBoundsException {
        return elementOf(draft ? batch.draft() : input, i);
    }

    public int lookAt(int which) {
        switch (which) {
            case 0:
                return tape.size();
            case 1:
                return fault.kind();
            case 2:
                return fault.place();
            case 3:
                return hasProgram ? program.definitions() : 0;
            case 4:
                return input.size();
            case 5:
                return batch.draft().size();
            case 6:
                return batch.edits();
            case 7:
                return hasProgram ? output.size() : NONE;
            case 8:
                return hasProgram ? steps : NONE;
            case 9:
                return applied;
            case 10:
                return output.sum();
            default:
                return NONE;
        }
    }

    private void startSpare() {
        if (!machine.run(spare, input)) {
            fault.tell(TOO_LONG, NONE);
            return;
        }
        Program old = program;
        program = spare;
        spare = old;
        hasProgram = true;
        keepRun();
    }

    private void keepRun() {
        machine.copyOutput(output);
        steps = machine.steps();
    }

    private void acceptDraft() {
        input.copyFrom(batch.draft());
        batch.restart(input);
    }

    private static int elementOf(IntRow row, int i) {
        if (i < 0 || i >= row.size()) {
            throw new IndexOutOfBoundsException("no int at this place");
        }
        return row.get(i);
    }

    /**
     * Ints one behind the other, also as a stack. It grows by need, so that an object that is used for
     * little takes little room, and is used again by all calls. A place that is not there reads as 0.
     */
    private static final class IntRow {
        private static final int FIRST_ROOM = 16;

        private final int most;
        private int[] cells = new int[FIRST_ROOM];
        private int size;

        IntRow(int most) {
            this.most = most;
        }

        int size() {
            return size;
        }

        int get(int i) {
            return i >= 0 && i < size && i < cells.length ? cells[i] : 0;
        }

        void set(int i, int v) {
            if (i >= 0 && i < size && i < cells.length) {
                cells[i] = v;
            }
        }

        int top() {
            return get(size - 1);
        }

        void setTop(int v) {
            set(size - 1, v);
        }

        /** Does nothing beyond the most: the document's limits keep every row below it. */
        void push(int v) {
            if (size >= most) {
                return;
            }
            if (size >= cells.length) {
                cells = Arrays.copyOf(cells, Math.min(most, cells.length * 2));
            }
            if (size < cells.length) {
                cells[size] = v;
                size++;
            }
        }

        int pop() {
            if (size < 1 || size > cells.length) {
                return 0;
            }
            size--;
            return cells[size];
        }

        void cut(int newSize) {
            if (newSize >= 0 && newSize < size) {
                size = newSize;
            }
        }

        void copyFrom(IntRow other) {
            cut(0);
            for (int i = 0; i < other.size(); i++) {
                push(other.get(i));
            }
        }

        int sum() {
            int sum = 0;
            for (int i = 0; i < size; i++) {
                sum += get(i);
            }
            return sum;
        }
    }

    /** The first fault of a text and its place. */
    private static final class Fault {
        private int kind;
        private int place = NONE;

        int kind() {
            return kind;
        }

        int place() {
            return place;
        }

        boolean isThere() {
            return kind != 0;
        }

        void clear() {
            kind = 0;
            place = NONE;
        }

        /** What comes behind the first one does not count. */
        void tell(int newKind, int newPlace) {
            if (kind == 0) {
                kind = newKind;
                place = newPlace;
            }
        }
    }

    /** The draft, which is the input as the edits have made it, and how many these are. */
    private static final class Batch {
        private final IntRow draft = new IntRow(INPUT_ROOM);
        private int edits;

        IntRow draft() {
            return draft;
        }

        int edits() {
            return edits;
        }

        void restart(IntRow input) {
            draft.copyFrom(input);
            edits = 0;
        }

        boolean insert(int i, int v) {
            if (isFull() || i < 0 || i > draft.size() || draft.size() >= INPUT_ROOM) {
                return false;
            }
            draft.push(v);
            for (int at = draft.size() - 1; at > i; at--) {
                swap(at, at - 1);
            }
            edits++;
            return true;
        }

        boolean replace(int i, int v) {
            if (isFull() || !has(i, 1)) {
                return false;
            }
            draft.set(i, v);
            edits++;
            return true;
        }

        boolean delete(int i, int n) {
            if (isFull() || n < 1 || !has(i, n)) {
                return false;
            }
            int left = draft.size() - n;
            for (int at = i; at < left; at++) {
                draft.set(at, draft.get(at + n));
            }
            draft.cut(left);
            edits++;
            return true;
        }

        boolean reverse(int i, int n) {
            if (isFull() || n < 2 || !has(i, n)) {
                return false;
            }
            for (int k = 0; k < n / 2; k++) {
                swap(i + k, i + n - 1 - k);
            }
            edits++;
            return true;
        }

        private boolean isFull() {
            return edits >= BATCH_ROOM;
        }

        /** Subtracts, as i + n could be beyond the draft. */
        private boolean has(int i, int n) {
            return i >= 0 && i <= draft.size() && n <= draft.size() - i;
        }

        private void swap(int a, int b) {
            int v = draft.get(a);
            draft.set(a, draft.get(b));
            draft.set(b, v);
        }
    }

    /**
     * The words that are no names. Their codes are the kinds of expressions and definitions, and the
     * types, too: imod and lmod are both.
     */
    private static final class Word {
        static final int OTHER = 0;
        static final int ADD = 1;
        static final int SUB = 2;
        static final int MUL = 3;
        static final int DIV = 4;
        static final int REM = 5;
        static final int LESS = 6;
        static final int SAME = 7;
        static final int IF = 8;
        static final int LET = 9;
        static final int CASE = 10;
        static final int CONS = 11;
        static final int CALL = 12;
        static final int MEMO = 13;
        static final int IMOD = 14;
        static final int LMOD = 15;
        static final int READ = 16;
        static final int WRITE = 17;
        static final int JUMP = 18;
        static final int NIL = 19;
        static final int INT = 20;
        static final int LIST = 21;
        static final int FUN = 22;
        static final int CHG = 23;

        /** No words, but kinds of expressions beside them. */
        static final int NUMBER = 24;
        static final int VARIABLE = 25;

        /** In the order of the codes, a blank behind each. */
        private static final String WORDS =
            "add sub mul div rem less same if let case cons call memo imod lmod read write jump nil int list fun chg ";

        private Word() {
        }

        static int codeOf(long name) {
            int code = ADD;
            long word = 0;
            for (int i = 0; i < WORDS.length(); i++) {
                char c = WORDS.charAt(i);
                if (c != ' ') {
                    word = withLetter(word, c);
                } else if (word == name) {
                    return code;
                } else {
                    word = 0;
                    code++;
                }
            }
            return OTHER;
        }

        /** Five bits for a letter: the twelve letters of a name find room in a long. */
        static long withLetter(long name, int letter) {
            return name * 32 + (letter - 'a' + 1);
        }

        static long nameOf(String text) {
            long name = 0;
            for (int i = 0; i < text.length(); i++) {
                name = withLetter(name, text.charAt(i));
            }
            return name;
        }

        static boolean isType(int code) {
            return code == INT || code == LIST || code == IMOD || code == LMOD;
        }

        static boolean startsStable(int code) {
            return code >= ADD && code <= LMOD;
        }

        static boolean startsChangeable(int code) {
            return code >= IF && code <= CASE || code >= READ && code <= JUMP;
        }

        static boolean usesDefinition(int kind) {
            return kind == CALL || kind == MEMO || kind == JUMP;
        }
    }

    /** Cuts the tape into tokens; it holds the one that it has come to. */
    private static final class Lexer {
        static final int END = 0;
        static final int BAD = 1;
        static final int OPEN = 2;
        static final int CLOSE = 3;
        static final int NAME = 4;
        static final int NUMBER = 5;

        private static final int NAME_ROOM = 12;
        private static final long NUMBER_MOST = 2147483647L;

        private final IntRow tape;
        private int next;
        private int kind;
        private int place;
        private int number;
        private long name;
        private int word;

        Lexer(IntRow tape) {
            this.tape = tape;
        }

        int kind() {
            return kind;
        }

        int place() {
            return place;
        }

        int number() {
            return number;
        }

        long name() {
            return name;
        }

        /** The code of the name as a word; OTHER for what is no name, too. */
        int word() {
            return word;
        }

        int length() {
            return tape.size();
        }

        void restart() {
            next = 0;
        }

        void advance() {
            skipBlanks();
            place = next;
            word = Word.OTHER;
            if (next >= tape.size()) {
                kind = END;
                return;
            }
            int c = tape.get(next);
            if (isWordByte(c)) {
                takeWord();
                return;
            }
            next++;
            kind = c == '(' ? OPEN : c == ')' ? CLOSE : BAD;
        }

        /** The name that begins at a place where a token has been seen to be one. */
        long nameAt(int from) {
            long found = 0;
            for (int at = from; at < from + NAME_ROOM && isLetter(tape.get(at)); at++) {
                found = Word.withLetter(found, tape.get(at));
            }
            return found;
        }

        private void skipBlanks() {
            while (next < tape.size() && (tape.get(next) == ' ' || tape.get(next) == '\n')) {
                next++;
            }
        }

        private void takeWord() {
            while (next < tape.size() && isWordByte(tape.get(next))) {
                next++;
            }
            if (isName()) {
                kind = NAME;
                name = nameAt(place);
                word = Word.codeOf(name);
            } else {
                kind = takeNumber() ? NUMBER : BAD;
            }
        }

        private boolean isName() {
            for (int at = place; at < next; at++) {
                if (!isLetter(tape.get(at))) {
                    return false;
                }
            }
            return next - place <= NAME_ROOM;
        }

        private boolean takeNumber() {
            boolean below = tape.get(place) == '-';
            int from = below ? place + 1 : place;
            long most = below ? NUMBER_MOST + 1 : NUMBER_MOST;
            long value = 0;
            for (int at = from; at < next; at++) {
                if (!isDigit(tape.get(at))) {
                    return false;
                }
                value = value * 10 + (tape.get(at) - '0');
                if (value > most) {
                    return false;
                }
            }
            number = (int) (below ? -value : value);
            return from < next;
        }

        private static boolean isWordByte(int c) {
            return isLetter(c) || isDigit(c) || c == '-';
        }

        private static boolean isLetter(int c) {
            return c >= 'a' && c <= 'z';
        }

        private static boolean isDigit(int c) {
            return c >= '0' && c <= '9';
        }
    }

    /**
     * The expressions of a text, each one ahead of its parts: the first part of a node is the next node,
     * and behind the end of a part the next part begins. A definition is a node with one part.
     */
    private static final class Program {
        private final IntRow kinds = new IntRow(NODE_ROOM);
        private final IntRow places = new IntRow(NODE_ROOM);
        private final IntRow values = new IntRow(NODE_ROOM);
        private final IntRow depths = new IntRow(NODE_ROOM);
        private final IntRow ends = new IntRow(NODE_ROOM);

        private final long[] names = new long[DEFINITION_ROOM];
        private final IntRow namePlaces = new IntRow(DEFINITION_ROOM);
        private final IntRow nodes = new IntRow(DEFINITION_ROOM);
        private final IntRow results = new IntRow(DEFINITION_ROOM);
        private final IntRow counts = new IntRow(DEFINITION_ROOM);
        private final IntRow parameters = new IntRow(DEFINITION_ROOM * PARAMETER_ROOM);

        void clear() {
            kinds.cut(0);
            places.cut(0);
            values.cut(0);
            depths.cut(0);
            ends.cut(0);
            namePlaces.cut(0);
            nodes.cut(0);
            results.cut(0);
            counts.cut(0);
            parameters.cut(0);
        }

        int size() {
            return kinds.size();
        }

        int add(int kind, int place, int value, int depth) {
            int node = kinds.size();
            kinds.push(kind);
            places.push(place);
            values.push(value);
            depths.push(depth);
            ends.push(node + 1);
            return node;
        }

        void close(int node) {
            ends.set(node, kinds.size());
        }

        int kind(int node) {
            return kinds.get(node);
        }

        int place(int node) {
            return places.get(node);
        }

        int value(int node) {
            return values.get(node);
        }

        void setValue(int node, int value) {
            values.set(node, value);
        }

        /** How many variables there are around the node: its own ones begin at this slot. */
        int depth(int node) {
            return depths.get(node);
        }

        int end(int node) {
            return ends.get(node);
        }

        int definitions() {
            return nodes.size();
        }

        boolean isFull() {
            return nodes.size() >= DEFINITION_ROOM;
        }

        void define(long name, int namePlace, int node) {
            int definition = nodes.size();
            if (definition >= names.length) {
                return;
            }
            names[definition] = name;
            namePlaces.push(namePlace);
            nodes.push(node);
            results.push(Word.OTHER);
            counts.push(0);
            for (int k = 0; k < PARAMETER_ROOM; k++) {
                parameters.push(Word.OTHER);
            }
        }

        /** Parameters and result are told of the latest definition. */
        void addParameter(int type) {
            int count = counts.top();
            parameters.set((nodes.size() - 1) * PARAMETER_ROOM + count, type);
            counts.setTop(count + 1);
        }

        void setResult(int type) {
            results.setTop(type);
        }

        int definitionOf(long name) {
            for (int k = 0; k < nodes.size() && k < names.length; k++) {
                if (names[k] == name) {
                    return k;
                }
            }
            return NONE;
        }

        int definitionKind(int definition) {
            return kinds.get(nodes.get(definition));
        }

        int namePlace(int definition) {
            return namePlaces.get(definition);
        }

        int body(int definition) {
            return nodes.get(definition) + 1;
        }

        int result(int definition) {
            return results.get(definition);
        }

        int count(int definition) {
            return counts.get(definition);
        }

        int parameter(int definition, int k) {
            return parameters.get(definition * PARAMETER_ROOM + k);
        }
    }

    /** Reads the tape into a program, token by token, and tells the faults 1 to 3. */
    private static final class Reader {
        private static final int STABLE = 0;
        private static final int CHANGEABLE = 1;
        private static final int DEFINITION = 2;

        private final Lexer lexer;
        private final Fault fault;
        private Program program;
        private boolean ended;

        /** Where the latest ( stands, and what it has begun: its first word has to come, if not NONE. */
        private int begunPlace;
        private int begunLevel;

        private final long[] scope = new long[VARIABLE_ROOM];
        private int scopeSize;

        /** What is open, as a text may nest deeper than calls can: node, spot in its form, and level. */
        private final IntRow nodes = new IntRow(NODE_ROOM);
        private final IntRow spots = new IntRow(NODE_ROOM);
        private final IntRow levels = new IntRow(NODE_ROOM);

        Reader(Lexer lexer, Fault fault, Program program) {
            this.lexer = lexer;
            this.fault = fault;
            this.program = program;
        }

        void read(Program into) {
            program = into;
            restart();
            for (int turn = 0; turn < MANY_TURNS && !ended && !fault.isThere(); turn++) {
                char symbol = nextSymbol();
                if (symbol == 'B') {
                    bind(lexer.nameAt(program.value(nodes.top())));
                } else if (symbol == 'U') {
                    scopeSize--;
                } else if (takeFor(symbol)) {
                    match(symbol == '*' ? operandOrClose() : symbol);
                }
            }
        }

        private void restart() {
            program.clear();
            lexer.restart();
            nodes.cut(0);
            spots.cut(0);
            levels.cut(0);
            scopeSize = 0;
            begunLevel = NONE;
            ended = false;
        }

        /**
         * What has to come behind the first word of a kind, token by token (B and U take none):
         * <pre>
         * E C S   an expression: stable, changeable, of the level of the whole
         * *       a stable expression, again and again, or the ) of the whole
         * X B     the name of a variable that is not there yet, and its coming
         * V T N   a variable that is there at once: any, not the latest one again, none again
         * U       the latest variable goes
         * F D     the name of a definition: one that is used, this one
         * P Y Q   the ( of a parameter or the ) behind all, its type, its )
         * R       the type of a definition's value
         * ( I )   an inner (, an inner ), the ) of the whole
         * </pre>
         */
        private static String formOf(int kind) {
            switch (kind) {
                case Word.FUN:
                case Word.CHG:
                    return "D(PNYQRS)";
                case Word.IF:
                    return "ESS)";
                case Word.LET:
                    return "XEBSU)";
                case Word.CASE:
                    return "ES(VTSUUI)";
                case Word.CALL:
                case Word.MEMO:
                case Word.JUMP:
                    return "F*";
                case Word.IMOD:
                case Word.LMOD:
                    return "C)";
                case Word.READ:
                    return "EVCU)";
                case Word.WRITE:
                    return "E)";
                default:
                    return "EE)";
            }
        }

        /** H for a first word behind a (, A for a definition where none is open, else as the form says. */
        private char nextSymbol() {
            if (begunLevel != NONE) {
                return 'H';
            }
            if (nodes.size() == 0) {
                return 'A';
            }
            String form = formOf(program.kind(nodes.top()));
            int spot = spots.top();
            spots.setTop(spot + 1);
            return spot >= 0 && spot < form.length() ? form.charAt(spot) : ')';
        }

        /** False at the end, which is right just where a definition could begin, and at bad bytes. */
        private boolean takeFor(char symbol) {
            lexer.advance();
            if (lexer.kind() == Lexer.END) {
                ended = true;
                if (symbol != 'A') {
                    fault.tell(EARLY_END, lexer.place());
                }
                return false;
            }
            if (lexer.kind() == Lexer.BAD) {
                fault.tell(BAD_BYTES, lexer.place());
                return false;
            }
            return true;
        }

        private char operandOrClose() {
            if (lexer.kind() == Lexer.CLOSE) {
                return ')';
            }
            spots.setTop(spots.top() - 1);
            return 'E';
        }

        private void match(char symbol) {
            switch (symbol) {
                case 'A':
                    if (need(lexer.kind() == Lexer.OPEN && !program.isFull())) {
                        begin(DEFINITION);
                    }
                    break;
                case 'H':
                    open();
                    break;
                case 'E':
                    expression(STABLE);
                    break;
                case 'C':
                    expression(CHANGEABLE);
                    break;
                case 'S':
                    expression(levels.top());
                    break;
                case '(':
                    need(lexer.kind() == Lexer.OPEN);
                    break;
                case 'I':
                    need(lexer.kind() == Lexer.CLOSE);
                    break;
                case ')':
                    close();
                    break;
                default:
                    matchName(symbol);
            }
        }

        private void matchName(char symbol) {
            switch (symbol) {
                case 'D':
                    definitionName();
                    break;
                case 'F':
                    usedDefinition();
                    break;
                case 'P':
                    parameterOrClose();
                    break;
                case 'Y':
                    if (need(Word.isType(lexer.word()))) {
                        program.addParameter(lexer.word());
                    }
                    break;
                case 'Q':
                    need(lexer.kind() == Lexer.CLOSE);
                    spots.setTop(formOf(Word.FUN).indexOf('P'));
                    break;
                case 'R':
                    result();
                    break;
                default:
                    variable(symbol);
            }
        }

        private boolean need(boolean holds) {
            if (!holds) {
                fault.tell(BAD_TOKEN, lexer.place());
            }
            return holds;
        }

        private boolean needName() {
            return need(lexer.kind() == Lexer.NAME && lexer.word() == Word.OTHER);
        }

        private void begin(int level) {
            begunPlace = lexer.place();
            begunLevel = level;
        }

        private void open() {
            int word = lexer.word();
            if (!need(startsBegun(word))) {
                return;
            }
            int level = begunLevel;
            if (level == DEFINITION) {
                level = word == Word.FUN ? STABLE : CHANGEABLE;
            }
            nodes.push(program.add(word, begunPlace, program.definitions(), scopeSize));
            spots.push(0);
            levels.push(level);
            begunLevel = NONE;
        }

        private boolean startsBegun(int word) {
            if (begunLevel == DEFINITION) {
                return word == Word.FUN || word == Word.CHG;
            }
            return begunLevel == STABLE ? Word.startsStable(word) : Word.startsChangeable(word);
        }

        private void close() {
            if (!need(lexer.kind() == Lexer.CLOSE)) {
                return;
            }
            program.close(nodes.pop());
            spots.pop();
            levels.pop();
            if (nodes.size() == 0) {
                scopeSize = 0;
            }
        }

        private void expression(int level) {
            if (lexer.kind() == Lexer.OPEN) {
                begin(level);
            } else if (need(level == STABLE && lexer.kind() != Lexer.CLOSE)) {
                leaf();
            }
        }

        private void leaf() {
            if (lexer.kind() == Lexer.NUMBER) {
                program.add(Word.NUMBER, lexer.place(), lexer.number(), scopeSize);
            } else if (lexer.word() == Word.NIL) {
                program.add(Word.NIL, lexer.place(), 0, scopeSize);
            } else if (needName()) {
                program.add(Word.VARIABLE, lexer.place(), slotOf(lexer.name()), scopeSize);
            }
        }

        /** A definition may stand behind its use: its name is looked up when all is read. */
        private void usedDefinition() {
            if (needName()) {
                program.setValue(nodes.top(), lexer.place());
            }
        }

        private void variable(char symbol) {
            if (!needName() || !need(scopeSize < VARIABLE_ROOM)) {
                return;
            }
            int hidden = slotOf(lexer.name());
            boolean isTwice = symbol == 'T' && hidden == scopeSize - 1 || symbol == 'N' && hidden != NONE;
            if (symbol == 'X') {
                program.setValue(nodes.top(), lexer.place());
            } else if (need(!isTwice)) {
                bind(lexer.name());
            }
        }

        private void definitionName() {
            if (needName() && need(program.definitionOf(lexer.name()) == NONE)) {
                program.define(lexer.name(), lexer.place(), nodes.top());
            }
        }

        private void parameterOrClose() {
            if (lexer.kind() == Lexer.CLOSE) {
                spots.setTop(formOf(Word.FUN).indexOf('R'));
            } else {
                need(lexer.kind() == Lexer.OPEN && scopeSize < PARAMETER_ROOM);
            }
        }

        private void result() {
            int word = lexer.word();
            boolean isWritten = word == Word.INT || word == Word.LIST;
            if (need(levels.top() == STABLE ? Word.isType(word) : isWritten)) {
                program.setResult(word);
            }
        }

        private void bind(long name) {
            if (scopeSize >= 0 && scopeSize < scope.length) {
                scope[scopeSize] = name;
                scopeSize++;
            }
        }

        /** The innermost variable of the name, as it hides the others. */
        private int slotOf(long name) {
            for (int slot = Math.min(scopeSize, scope.length) - 1; slot >= 0; slot--) {
                if (scope[slot] == name) {
                    return slot;
                }
            }
            return NONE;
        }
    }

    /**
     * Tells the faults 4 to 6 of a program that has been read, and puts the definitions that are used in
     * place of the places of their names.
     */
    private static final class Checker {
        private static final int ANY = 0;

        private final Lexer lexer;
        private final Fault fault;
        private Program program;

        /** What is open: node, how many of its parts are done, and the type of the latest of these. */
        private final IntRow nodes = new IntRow(NODE_ROOM);
        private final IntRow parts = new IntRow(NODE_ROOM);
        private final IntRow latest = new IntRow(NODE_ROOM);

        private final int[] slotTypes = new int[VARIABLE_ROOM];

        Checker(Lexer lexer, Fault fault, Program program) {
            this.lexer = lexer;
            this.fault = fault;
            this.program = program;
        }

        void check(Program read) {
            program = read;
            nodes.cut(0);
            parts.cut(0);
            latest.cut(0);
            checkMain();
            for (int node = 0; node < program.size() && !fault.isThere(); node++) {
                enter(node);
                for (int left = nodes.size(); left > 0 && isDone(node) && !fault.isThere(); left--) {
                    leave();
                }
            }
        }

        private void checkMain() {
            int last = program.definitions() - 1;
            if (last < 0) {
                fault.tell(NO_MAIN, lexer.length());
                return;
            }
            boolean named = program.definitionOf(Word.nameOf("main")) == last;
            boolean typed = program.definitionKind(last) == Word.FUN && program.result(last) == Word.LMOD;
            boolean fed = program.count(last) == 1 && program.parameter(last, 0) == Word.LMOD;
            if (!named || !typed || !fed) {
                fault.tell(NO_MAIN, program.namePlace(last));
            }
        }

        private boolean isDone(int node) {
            return program.end(nodes.top()) == node + 1;
        }

        private void enter(int node) {
            int kind = program.kind(node);
            if (kind == Word.VARIABLE && program.value(node) == NONE) {
                fault.tell(NOT_THERE, program.place(node));
            } else if (Word.usesDefinition(kind)) {
                resolve(node);
            } else if (kind == Word.FUN || kind == Word.CHG) {
                startDefinition(program.value(node));
            }
            nodes.push(node);
            parts.push(0);
            latest.push(ANY);
        }

        private void resolve(int node) {
            int namePlace = program.value(node);
            int definition = program.definitionOf(lexer.nameAt(namePlace));
            int wanted = program.kind(node) == Word.JUMP ? Word.CHG : Word.FUN;
            if (definition == NONE || program.definitionKind(definition) != wanted
                    || program.count(definition) != partsOf(node)) {
                fault.tell(NOT_THERE, namePlace);
                return;
            }
            program.setValue(node, definition);
        }

        /** Looks no further than what is too many for any definition. */
        private int partsOf(int node) {
            int count = 0;
            int part = node + 1;
            while (part < program.end(node) && count <= PARAMETER_ROOM) {
                part = program.end(part);
                count++;
            }
            return count;
        }

        private void startDefinition(int definition) {
            for (int k = 0; k < program.count(definition); k++) {
                setSlotType(k, program.parameter(definition, k));
            }
        }

        private void leave() {
            int node = nodes.pop();
            parts.pop();
            int type = typeOf(node, latest.pop());
            if (nodes.size() == 0) {
                return;
            }
            int whole = nodes.top();
            int part = parts.top();
            int due = dueType(whole, part, type);
            if (due != ANY && due != type) {
                fault.tell(OTHER_TYPE, program.place(node));
                return;
            }
            bindBehind(whole, part, type);
            parts.setTop(part + 1);
            latest.setTop(type);
        }

        private int typeOf(int node, int lastPart) {
            int kind = program.kind(node);
            switch (kind) {
                case Word.VARIABLE:
                    return slotType(program.value(node));
                case Word.NIL:
                case Word.CONS:
                    return Word.LIST;
                case Word.CALL:
                case Word.MEMO:
                case Word.JUMP:
                    return program.result(program.value(node));
                case Word.IMOD:
                case Word.LMOD:
                    return kind;
                case Word.IF:
                case Word.LET:
                case Word.CASE:
                case Word.READ:
                case Word.WRITE:
                    return lastPart;
                default:
                    return Word.INT;
            }
        }

        /** The type that a part of a whole has to have; where two will do, one of them. */
        private int dueType(int whole, int part, int type) {
            int kind = program.kind(whole);
            switch (kind) {
                case Word.FUN:
                case Word.CHG:
                    return program.result(program.value(whole));
                case Word.IF:
                    return part == 0 ? Word.INT : latestBehindSecond(part);
                case Word.CASE:
                    return part == 0 ? Word.LIST : latestBehindSecond(part);
                case Word.LET:
                    return ANY;
                case Word.CONS:
                    return part == 0 ? Word.INT : Word.LMOD;
                case Word.CALL:
                case Word.MEMO:
                case Word.JUMP:
                    return program.parameter(program.value(whole), part);
                case Word.LMOD:
                    return Word.LIST;
                case Word.READ:
                    return part > 0 ? ANY : type == Word.IMOD ? Word.IMOD : Word.LMOD;
                case Word.WRITE:
                    return type == Word.INT ? Word.INT : Word.LIST;
                default:
                    return Word.INT;
            }
        }

        private int latestBehindSecond(int part) {
            return part > 1 ? latest.top() : ANY;
        }

        /** Variables get their types just ahead of where they are there: their slots are used before. */
        private void bindBehind(int whole, int part, int type) {
            int kind = program.kind(whole);
            int slot = program.depth(whole);
            if (kind == Word.LET && part == 0) {
                setSlotType(slot, type);
            } else if (kind == Word.READ && part == 0) {
                setSlotType(slot, type == Word.IMOD ? Word.INT : Word.LIST);
            } else if (kind == Word.CASE && part == 1) {
                setSlotType(slot, Word.INT);
                setSlotType(slot + 1, Word.LMOD);
            }
        }

        private int slotType(int slot) {
            return slot >= 0 && slot < slotTypes.length ? slotTypes[slot] : ANY;
        }

        private void setSlotType(int slot, int type) {
            if (slot >= 0 && slot < slotTypes.length) {
                slotTypes[slot] = type;
            }
        }
    }

    /**
     * Runs a program. A list is the number of its first cell, 0 is NIL. A modifiable is written before
     * anybody can have it, and never again in a run: so what it holds stands for it.
     */
    private static final class Machine {
        private static final int NIL = 0;

        /** In place of the next part: the operands are done, what the definition says is running. */
        private static final int IN_BODY = -1;

        private Program program;

        /** What is open, as a run may nest deeper than calls can: node and its next part. */
        private final IntRow nodes = new IntRow(STACK_ROOM);
        private final IntRow parts = new IntRow(STACK_ROOM);
        private final IntRow values = new IntRow(STACK_ROOM);

        /** The variables of all definitions that are running; those of the innermost begin at base. */
        private final IntRow slots = new IntRow(STACK_ROOM);
        private int base;

        private final IntRow heads = new IntRow(CELL_ROOM);
        private final IntRow tails = new IntRow(CELL_ROOM);

        /** The node whose evaluation is to begin; NONE if what is open has to go on. */
        private int next;
        private int steps;

        Machine(Program program) {
            this.program = program;
        }

        int steps() {
            return steps;
        }

        /** False if the run would take too many steps. */
        boolean run(Program toRun, IntRow input) {
            program = toRun;
            clear();
            slots.push(listOf(input));
            next = program.body(program.definitions() - 1);
            for (int turn = 0; turn < MANY_TURNS && isRunning(); turn++) {
                if (next != NONE) {
                    begin(next);
                } else {
                    goOn();
                }
            }
            return steps <= STEP_LIMIT;
        }

        void copyOutput(IntRow into) {
            into.cut(0);
            int cell = values.top();
            for (int k = 0; k < heads.size() && cell != NIL; k++) {
                into.push(heads.get(cell));
                cell = tails.get(cell);
            }
        }

        private void clear() {
            nodes.cut(0);
            parts.cut(0);
            values.cut(0);
            slots.cut(0);
            heads.cut(0);
            tails.cut(0);
            newCell(0, NIL);
            base = 0;
            steps = 0;
        }

        private boolean isRunning() {
            return steps <= STEP_LIMIT && (next != NONE || nodes.size() > 0);
        }

        private int listOf(IntRow ints) {
            int list = NIL;
            for (int i = ints.size() - 1; i >= 0; i--) {
                list = newCell(ints.get(i), list);
            }
            return list;
        }

        private int newCell(int head, int tail) {
            heads.push(head);
            tails.push(tail);
            return heads.size() - 1;
        }

        private void begin(int node) {
            next = NONE;
            steps++;
            if (steps > STEP_LIMIT) {
                return;
            }
            switch (program.kind(node)) {
                case Word.NUMBER:
                    values.push(program.value(node));
                    break;
                case Word.VARIABLE:
                    values.push(slots.get(base + program.value(node)));
                    break;
                case Word.NIL:
                    values.push(NIL);
                    break;
                default:
                    nodes.push(node);
                    parts.push(node + 1);
            }
        }

        private void goOn() {
            int node = nodes.top();
            int part = parts.top();
            switch (program.kind(node)) {
                case Word.IF:
                case Word.LET:
                case Word.CASE:
                case Word.READ:
                    if (part == node + 1) {
                        beginPart(part);
                    } else {
                        goOver(node, part);
                    }
                    break;
                case Word.IMOD:
                case Word.LMOD:
                case Word.WRITE:
                    replaceBy(part);
                    break;
                default:
                    if (part == IN_BODY) {
                        returnFrom(node);
                    } else if (part < program.end(node)) {
                        beginPart(part);
                    } else {
                        finish(node);
                    }
            }
        }

        private void beginPart(int part) {
            parts.setTop(program.end(part));
            next = part;
        }

        /** The value of the part is that of the whole: nothing has to be done behind it. */
        private void replaceBy(int part) {
            closeTop();
            next = part;
        }

        private void closeTop() {
            nodes.pop();
            parts.pop();
        }

        /** From the first part to the one that its value chooses. */
        private void goOver(int node, int second) {
            int kind = program.kind(node);
            int value = values.pop();
            int chosen = second;
            if (kind == Word.IF) {
                chosen = value != 0 ? second : program.end(second);
            } else if (kind == Word.CASE) {
                if (value != NIL) {
                    chosen = program.end(second);
                    slots.cut(base + program.depth(node));
                    slots.push(heads.get(value));
                    slots.push(tails.get(value));
                }
            } else {
                slots.cut(base + program.depth(node));
                slots.push(value);
            }
            replaceBy(chosen);
        }

        private void finish(int node) {
            int kind = program.kind(node);
            if (Word.usesDefinition(kind)) {
                goInto(node);
                return;
            }
            closeTop();
            int second = values.pop();
            int first = values.pop();
            values.push(kind == Word.CONS ? newCell(first, second) : calculate(kind, first, second));
        }

        private void goInto(int node) {
            int definition = program.value(node);
            base += program.depth(node);
            slots.cut(base);
            int from = values.size() - program.count(definition);
            for (int k = from; k < values.size(); k++) {
                slots.push(values.get(k));
            }
            values.cut(from);
            parts.setTop(IN_BODY);
            next = program.body(definition);
        }

        private void returnFrom(int node) {
            base -= program.depth(node);
            closeTop();
        }

        private static int calculate(int kind, int first, int second) {
            switch (kind) {
                case Word.ADD:
                    return first + second;
                case Word.SUB:
                    return first - second;
                case Word.MUL:
                    return first * second;
                case Word.DIV:
                    return second == 0 ? 0 : first / second;
                case Word.REM:
                    return second == 0 ? first : first % second;
                case Word.LESS:
                    return first < second ? 1 : 0;
                default:
                    return first == second ? 1 : 0;
            }
        }
    }
}
