/** A desk for conditions at which a machine is to stop; the promises are in ../shared/DOC.md. */
public final class ConditionDesk {
    private static final int CONDITIONS = 8;
    private static final int TEXT_LIMIT = 120;
    private static final int PART_LIMIT = 40;
    private static final int OPEN_LIMIT = 8;
    private static final int IGNORE_LIMIT = 1000;
    private static final long NUMBER_LIMIT = 1L << 32;

    private static final int REGISTERS = 34;
    private static final int PLACE = 32;
    private static final int PROCESS = 33;
    private static final int CELLS = 256;

    private static final int CANT_BE_THERE = 1;
    private static final int UNKNOWN_WORD = 2;
    private static final int PART_TOO_MANY = 3;
    private static final int TOO_DEEP = 4;

    private static final int DIVISION_BY_ZERO = 1;
    private static final int WRONG_ADDRESS = 2;

    // Kinds of tokens; those that are worked are the kinds of a program's nodes, too.
    private static final int END = 0;
    private static final int NONE = 1;
    private static final int UNKNOWN = 2;
    private static final int NUMBER = 3;
    private static final int REGISTER = 4;
    private static final int COUNT = 5;
    private static final int BYTE = 6;
    private static final int HALF = 7;
    private static final int OLD = 8;
    private static final int CHANGED = 9;
    private static final int OPEN_ROUND = 10;
    private static final int CLOSE_ROUND = 11;
    private static final int OPEN_SQUARE = 12;
    private static final int CLOSE_SQUARE = 13;
    private static final int NOT = 14;
    private static final int COMPLEMENT = 15;
    // Signs between two operands: standsBetween and compares need them in this order.
    private static final int OR = 16;
    private static final int AND = 17;
    private static final int EQUAL = 18;
    private static final int UNEQUAL = 19;
    private static final int LESS = 20;
    private static final int AT_MOST = 21;
    private static final int MORE = 22;
    private static final int AT_LEAST = 23;
    private static final int BIT_OR = 24;
    private static final int BIT_XOR = 25;
    private static final int BIT_AND = 26;
    private static final int SHIFT_LEFT = 27;
    private static final int SHIFT_RIGHT = 28;
    private static final int PLUS = 29;
    private static final int MINUS = 30;
    private static final int TIMES = 31;
    private static final int DIVIDE = 32;
    private static final int REMAINDER = 33;
    // No token is one of these: the context makes them of [ and of -.
    private static final int WORD = 34;
    private static final int NEGATE = 35;

    private final Text text;
    private final Machine machine;
    private final Builder builder;
    private final Condition[] conditions;
    private long allSteps;

    public ConditionDesk() {
        text = new Text();
        machine = new Machine();
        builder = new Builder(text);
        conditions = new Condition[CONDITIONS];
        for (int k = 0; k < conditions.length; k++) {
            conditions[k] = new Condition(machine);
        }
        allSteps = 0;
    }

    public boolean type(char c) {
        return text.append(c);
    }

    public int compile(int k) throws IllegalArgumentException {
        Condition condition = conditionAt(k);
        if (condition == null) {
            throw new IllegalArgumentException("no such condition");
        }
        int answer = builder.build();
        text.clear();
        if (answer == 0) {
            condition.begin(builder.program);
        }
        return answer;
    }

    public boolean drop(int k) throws IllegalArgumentException {
        Condition condition = conditionAt(k);
        if (condition == null) {
            throw new IllegalArgumentException("no such condition");
        }
        boolean was = condition.there;
        condition.there = false;
        return was;
    }

    public void set(int r, int v) throws IllegalArgumentException {
        if (r < 0 || r >= REGISTERS) {
            throw new IllegalArgumentException("no such register");
        }
        machine.putRegister(r, v);
    }

    public void go(long count) {
        machine.count = count;
    }

    public void poke(int address, int v) throws IllegalArgumentException {
        if (address < 0 || address >= CELLS) {
            throw new IllegalArgumentException("no such cell");
        }
        machine.putCell(address, v);
    }

    public int ignore(int k, int n) throws IllegalArgumentException, IllegalStateException {
        Condition condition = conditionAt(k);
        if (condition == null || n < 0 || n > IGNORE_LIMIT) {
            throw new IllegalArgumentException("no such condition or number");
        }
        if (!condition.there) {
            throw new IllegalStateException("the condition is not there");
        }
        int before = condition.ignoring;
        condition.ignoring = n;
        return before;
    }

    public int ask(int k) throws IllegalArgumentException, IllegalStateException {
        Condition condition = conditionAt(k);
        if (condition == null) {
            throw new IllegalArgumentException("no such condition");
        }
        if (!condition.there) {
            throw new IllegalStateException("the condition is not there");
        }
        int answer = condition.answer();
        allSteps += condition.steps;
        return answer;
    }

    public int askAll() {
        int bits = 0;
        for (int k = 0; k < conditions.length; k++) {
            Condition condition = conditions[k];
            if (condition != null && condition.there) {
                bits |= condition.answer() == 1 ? 1 << k : 0;
                allSteps += condition.steps;
            }
        }
        return bits;
    }

    public long about(int k, int what) throws IllegalArgumentException, IllegalStateException {
        Condition condition = conditionAt(k);
        if (condition == null || what < 0 || what > 5) {
            throw new IllegalArgumentException("no such condition or question");
        }
        if (!condition.there) {
            throw new IllegalStateException("the condition is not there");
        }
        return condition.tell(what);
    }

    public long count(int what) {
        switch (what) {
            case 0:
                return text.length;
            case 1:
                return conditionsThere();
            case 2:
                return allSteps;
            default:
                return -1;
        }
    }

    private Condition conditionAt(int k) {
        return k >= 0 && k < conditions.length ? conditions[k] : null;
    }

    private int conditionsThere() {
        int there = 0;
        for (int k = 0; k < conditions.length; k++) {
            Condition condition = conditions[k];
            if (condition != null && condition.there) {
                there++;
            }
        }
        return there;
    }

    /** How strongly a sign binds: between two operands 1 to 9, before one 10; 0 for all that is no sign. */
    private static int strengthOf(int kind) {
        switch (kind) {
            case OR:
                return 1;
            case AND:
                return 2;
            case EQUAL: case UNEQUAL: case LESS: case AT_MOST: case MORE: case AT_LEAST:
                return 3;
            case BIT_OR:
                return 4;
            case BIT_XOR:
                return 5;
            case BIT_AND:
                return 6;
            case SHIFT_LEFT: case SHIFT_RIGHT:
                return 7;
            case PLUS: case MINUS:
                return 8;
            case TIMES: case DIVIDE: case REMAINDER:
                return 9;
            case NOT: case COMPLEMENT: case NEGATE:
                return 10;
            default:
                return 0;
        }
    }

    private static boolean standsBetween(int kind) {
        return kind >= OR && kind <= REMAINDER;
    }

    private static boolean compares(int kind) {
        return kind >= EQUAL && kind <= AT_LEAST;
    }

    /** The characters that were typed. */
    private static final class Text {
        private final char[] letters = new char[TEXT_LIMIT];
        private int length = 0;

        private boolean append(char c) {
            if (c < 32 || c > 126 || length < 0 || length >= letters.length) {
                return false;
            }
            letters[length] = c;
            length++;
            return true;
        }

        /** Outside of the text a character that no token has, so that every token ends there. */
        private char letterAt(int place) {
            if (place < 0 || place >= length || place >= letters.length) {
                return 0;
            }
            return letters[place];
        }

        private void clear() {
            length = 0;
        }
    }

    /** Registers (the place and the process behind them), count and cells. */
    private static final class Machine {
        private final int[] registers = new int[REGISTERS];
        private final int[] cells = new int[CELLS];
        private long count = 0;

        private void putRegister(int r, int v) {
            if (r > 0 && r < registers.length) {
                registers[r] = v;
            }
        }

        private int registerAt(long r) {
            return r >= 0 && r < registers.length ? registers[(int) r] : 0;
        }

        private void putCell(int address, int v) {
            if (address >= 0 && address < cells.length) {
                cells[address] = v & 255;
            }
        }

        private long byteAt(int address) {
            return address >= 0 && address < cells.length ? cells[address] : 0;
        }

        private long halfAt(int address) {
            return (short) (byteAt(address) | byteAt(address + 1) << 8);
        }

        private long wordAt(int address) {
            return (int) (byteAt(address) | byteAt(address + 1) << 8
                | byteAt(address + 2) << 16 | byteAt(address + 3) << 24);
        }
    }

    /** Cuts the text into tokens, one at a time. */
    private static final class Tokens {
        private final Text text;
        private int start = 0;
        private int behind = 0;
        private int kind = END;
        private long value = 0;

        private Tokens(Text text) {
            this.text = text;
        }

        private void restart() {
            behind = 0;
        }

        private void next() {
            skipBlanks();
            start = behind;
            value = 0;
            char first = text.letterAt(start);
            if (start >= text.length) {
                kind = END;
            } else if (isDigit(first)) {
                readNumber();
            } else if (isLetter(first)) {
                readWord();
            } else {
                readSign();
            }
        }

        private void skipBlanks() {
            while (behind < text.length && text.letterAt(behind) == ' ') {
                behind++;
            }
        }

        private void readNumber() {
            boolean hex = text.letterAt(start) == '0' && text.letterAt(start + 1) == 'x';
            int base = hex ? 16 : 10;
            int first = hex ? start + 2 : start;
            for (behind = first; behind < text.length; behind++) {
                int digit = digitOf(text.letterAt(behind));
                if (digit < 0 || digit >= base) {
                    break;
                }
                // Held at the limit, so that no row of digits goes round to a number that is allowed.
                value = Math.min(value * base + digit, NUMBER_LIMIT);
            }
            boolean good = behind > first && value < NUMBER_LIMIT && !isLetterOrDigit(text.letterAt(behind));
            kind = good ? NUMBER : NONE;
        }

        private void readWord() {
            while (behind < text.length && isLetterOrDigit(text.letterAt(behind))) {
                behind++;
            }
            int register = registerOfWord();
            if (register >= 0) {
                kind = REGISTER;
                value = register;
            } else {
                kind = kindOfWord();
            }
        }

        private int registerOfWord() {
            if (isWord("pc")) {
                return PLACE;
            }
            if (isWord("pid")) {
                return PROCESS;
            }
            int digits = behind - start - 1;
            if (text.letterAt(start) != 'x' || digits < 1 || digits > 2) {
                return -1;
            }
            char first = text.letterAt(start + 1);
            if (!isDigit(first) || digits == 1) {
                return isDigit(first) ? first - '0' : -1;
            }
            char second = text.letterAt(start + 2);
            int register = (first - '0') * 10 + second - '0';
            return first != '0' && isDigit(second) && register < PLACE ? register : -1;
        }

        private int kindOfWord() {
            if (isWord("count")) {
                return COUNT;
            }
            if (isWord("byte")) {
                return BYTE;
            }
            if (isWord("half")) {
                return HALF;
            }
            if (isWord("old")) {
                return OLD;
            }
            return isWord("changed") ? CHANGED : UNKNOWN;
        }

        private boolean isWord(String word) {
            if (word.length() != behind - start) {
                return false;
            }
            for (int i = 0; i < word.length(); i++) {
                if (word.charAt(i) != text.letterAt(start + i)) {
                    return false;
                }
            }
            return true;
        }

        private void readSign() {
            char first = text.letterAt(start);
            char second = text.letterAt(start + 1);
            kind = first == second ? kindOfDouble(first) : second == '=' ? kindWithEqual(first) : NONE;
            behind = start + 2;
            if (kind == NONE) {
                kind = kindOfSingle(first);
                behind = start + 1;
            }
        }

        private static int kindOfDouble(char c) {
            switch (c) {
                case '|':
                    return OR;
                case '&':
                    return AND;
                case '=':
                    return EQUAL;
                case '<':
                    return SHIFT_LEFT;
                case '>':
                    return SHIFT_RIGHT;
                default:
                    return NONE;
            }
        }

        private static int kindWithEqual(char c) {
            switch (c) {
                case '!':
                    return UNEQUAL;
                case '<':
                    return AT_MOST;
                case '>':
                    return AT_LEAST;
                default:
                    return NONE;
            }
        }

        private static int kindOfSingle(char c) {
            switch (c) {
                case '<':
                    return LESS;
                case '>':
                    return MORE;
                case '|':
                    return BIT_OR;
                case '^':
                    return BIT_XOR;
                case '&':
                    return BIT_AND;
                case '+':
                    return PLUS;
                case '-':
                    return MINUS;
                case '*':
                    return TIMES;
                case '/':
                    return DIVIDE;
                case '%':
                    return REMAINDER;
                case '!':
                    return NOT;
                case '~':
                    return COMPLEMENT;
                case '(':
                    return OPEN_ROUND;
                case ')':
                    return CLOSE_ROUND;
                case '[':
                    return OPEN_SQUARE;
                case ']':
                    return CLOSE_SQUARE;
                default:
                    return NONE;
            }
        }

        private static boolean isDigit(char c) {
            return c >= '0' && c <= '9';
        }

        private static boolean isLetter(char c) {
            return c >= 'a' && c <= 'z' || c >= 'A' && c <= 'Z';
        }

        private static boolean isLetterOrDigit(char c) {
            return isLetter(c) || isDigit(c);
        }

        private static int digitOf(char c) {
            if (isDigit(c)) {
                return c - '0';
            }
            return c >= 'a' && c <= 'f' ? c - 'a' + 10 : -1;
        }
    }

    /** A pile of ints; what does not fit is not put on it, and an empty one gives -1. */
    private static final class Pile {
        private final int[] entries;
        private int size = 0;

        private Pile(int room) {
            entries = new int[room > 0 ? room : 0];
        }

        private void push(int entry) {
            if (size >= 0 && size < entries.length) {
                entries[size] = entry;
                size++;
            }
        }

        private int top() {
            return size > 0 && size <= entries.length ? entries[size - 1] : -1;
        }

        private int pop() {
            if (size <= 0 || size > entries.length) {
                return -1;
            }
            size--;
            return entries[size];
        }

        private void clear() {
            size = 0;
        }
    }

    /** A compiled text: a tree whose nodes stand behind their operands, the root as the last one. */
    private static final class Program {
        private final int[] kinds = new int[PART_LIMIT];
        private final int[] lefts = new int[PART_LIMIT];
        private final int[] rights = new int[PART_LIMIT];
        private final long[] values = new long[PART_LIMIT];
        private int size = 0;
        private int parts = 0;

        private void clear() {
            size = 0;
            parts = 0;
        }

        private int add(int kind, int left, int right, long value) {
            int node = size;
            if (node < 0 || node >= PART_LIMIT) {
                return -1;
            }
            kinds[node] = kind;
            lefts[node] = left;
            rights[node] = right;
            values[node] = value;
            size++;
            return node;
        }

        private void copyFrom(Program other) {
            System.arraycopy(other.kinds, 0, kinds, 0, PART_LIMIT);
            System.arraycopy(other.lefts, 0, lefts, 0, PART_LIMIT);
            System.arraycopy(other.rights, 0, rights, 0, PART_LIMIT);
            System.arraycopy(other.values, 0, values, 0, PART_LIMIT);
            size = other.size;
            parts = other.parts;
        }

        private boolean has(int node) {
            return node >= 0 && node < size;
        }

        private int kindAt(int node) {
            return node >= 0 && node < kinds.length ? kinds[node] : NONE;
        }

        private int leftOf(int node) {
            return node >= 0 && node < lefts.length ? lefts[node] : -1;
        }

        private int rightOf(int node) {
            return node >= 0 && node < rights.length ? rights[node] : -1;
        }

        private long valueAt(int node) {
            return node >= 0 && node < values.length ? values[node] : 0;
        }
    }

    /**
     * Makes a program of the text. Signs and brackets wait on a pile, not in calls that stand open,
     * so that a fault is seen at the very token that makes it, whatever is open around it.
     */
    private static final class Builder {
        private static final int OPERAND_NEXT = 0;
        private static final int OPERAND_DONE = 1;
        private static final int ROUND_NEXT = 2;
        private static final int SQUARE_NEXT = 3;

        private final Text text;
        private final Tokens tokens;
        private final Program program = new Program();
        // A part waits here as two entries at most: [ and the access that it opens.
        private final Pile waiting = new Pile(2 * PART_LIMIT);
        private final Pile operands = new Pile(PART_LIMIT);
        private final Pile open = new Pile(OPEN_LIMIT);
        private int state = OPERAND_NEXT;

        private Builder(Text text) {
            this.text = text;
            tokens = new Tokens(text);
        }

        /** 0, and the program stands; or the fault + 8 * its place. */
        private int build() {
            restart();
            // Every token but the end has a character at least.
            for (int turn = 0; turn <= TEXT_LIMIT; turn++) {
                tokens.next();
                int fault = faultOf(tokens.kind);
                if (fault != 0) {
                    return fault + 8 * tokens.start;
                }
                if (tokens.kind == END) {
                    settle(1);
                    return 0;
                }
                take(tokens.kind);
            }
            return CANT_BE_THERE + 8 * text.length;
        }

        private void restart() {
            tokens.restart();
            program.clear();
            waiting.clear();
            operands.clear();
            open.clear();
            state = OPERAND_NEXT;
        }

        private int faultOf(int kind) {
            if (!fits(kind)) {
                return CANT_BE_THERE;
            }
            if (kind == UNKNOWN) {
                return UNKNOWN_WORD;
            }
            if (isPart(kind) && program.parts >= PART_LIMIT) {
                return PART_TOO_MANY;
            }
            return opens(kind) && open.size >= OPEN_LIMIT ? TOO_DEEP : 0;
        }

        private boolean fits(int kind) {
            switch (state) {
                case OPERAND_NEXT:
                    return beginsOperand(kind);
                case ROUND_NEXT:
                    return kind == OPEN_ROUND;
                case SQUARE_NEXT:
                    return kind == OPEN_SQUARE;
                default:
                    return followsOperand(kind);
            }
        }

        private static boolean beginsOperand(int kind) {
            switch (kind) {
                case UNKNOWN: case NUMBER: case REGISTER: case COUNT: case BYTE: case HALF: case OLD: case CHANGED:
                case OPEN_ROUND: case OPEN_SQUARE: case NOT: case COMPLEMENT: case MINUS:
                    return true;
                default:
                    return false;
            }
        }

        private boolean followsOperand(int kind) {
            switch (kind) {
                case END:
                    return open.size == 0;
                case CLOSE_ROUND:
                    return open.top() == OPEN_ROUND;
                case CLOSE_SQUARE:
                    return open.top() == OPEN_SQUARE;
                default:
                    return standsBetween(kind);
            }
        }

        private static boolean isPart(int kind) {
            return kind != END && kind != CLOSE_ROUND && kind != CLOSE_SQUARE;
        }

        private static boolean opens(int kind) {
            return kind == OPEN_ROUND || kind == OPEN_SQUARE;
        }

        private void take(int kind) {
            if (isPart(kind)) {
                program.parts++;
            }
            if (opens(kind)) {
                takeOpening(kind);
            } else if (state == OPERAND_DONE) {
                takeBehindOperand(kind);
            } else {
                takeBeforeOperand(kind);
            }
        }

        private void takeOpening(int kind) {
            if (kind == OPEN_SQUARE && state == OPERAND_NEXT) {
                waiting.push(WORD);
            }
            waiting.push(kind);
            open.push(kind);
            state = OPERAND_NEXT;
        }

        private void takeBeforeOperand(int kind) {
            switch (kind) {
                case NUMBER: case REGISTER: case COUNT:
                    operands.push(program.add(kind, -1, -1, tokens.value));
                    state = OPERAND_DONE;
                    break;
                case OLD: case CHANGED:
                    waiting.push(kind);
                    state = ROUND_NEXT;
                    break;
                case BYTE: case HALF:
                    waiting.push(kind);
                    state = SQUARE_NEXT;
                    break;
                default:
                    waiting.push(kind == MINUS ? NEGATE : kind);
                    break;
            }
        }

        private void takeBehindOperand(int kind) {
            if (kind == CLOSE_ROUND || kind == CLOSE_SQUARE) {
                settle(1);
                waiting.pop();
                open.pop();
                if (takesBrackets(waiting.top())) {
                    settleOne();
                }
            } else {
                settle(strengthOf(kind));
                waiting.push(kind);
                state = OPERAND_NEXT;
            }
        }

        private static boolean takesBrackets(int kind) {
            return kind == OLD || kind == CHANGED || kind == WORD || kind == BYTE || kind == HALF;
        }

        /** Makes nodes of the signs that wait, back to one that binds less (a bracket binds least). */
        private void settle(int least) {
            for (int turn = 0; turn < PART_LIMIT && strengthOf(waiting.top()) >= least; turn++) {
                settleOne();
            }
        }

        private void settleOne() {
            int kind = waiting.pop();
            int right = standsBetween(kind) ? operands.pop() : -1;
            int left = operands.pop();
            operands.push(program.add(kind, left, right, 0));
        }
    }

    /** Works a program with the machine, and keeps what old and changed are to remember. */
    private static final class Worker {
        private final Machine machine;
        private final Program program = new Program();
        private final long[] remembered = new long[PART_LIMIT];
        private final long[] present = new long[PART_LIMIT];
        private boolean workedBefore = false;
        private int steps = 0;
        private int failure = 0;

        private Worker(Machine machine) {
            this.machine = machine;
        }

        private void begin(Program built) {
            program.copyFrom(built);
            workedBefore = false;
        }

        /** The value, 0 where it fails; steps and failure tell the rest. */
        private long workAll() {
            steps = 0;
            failure = 0;
            long value = work(program.size - 1, 1);
            int stepsOfAll = steps;
            int failureOfAll = failure;
            remember();
            steps = stepsOfAll;
            failure = failureOfAll;
            return failure == 0 ? value : 0;
        }

        /** Changes what is remembered only when all is worked: an old within an old is of the time before that. */
        private void remember() {
            for (int node = 0; node < present.length && node < program.size; node++) {
                int kind = program.kindAt(node);
                if (kind == OLD || kind == CHANGED) {
                    failure = 0;
                    long value = work(program.leftOf(node), 1);
                    present[node] = failure == 0 ? value : 0;
                }
            }
            System.arraycopy(present, 0, remembered, 0, PART_LIMIT);
            workedBefore = true;
        }

        private long rememberedAt(int node) {
            return node >= 0 && node < remembered.length ? remembered[node] : 0;
        }

        /** Once something failed, nothing more is begun, and no value is of use. */
        private long work(int node, int depth) {
            if (failure != 0 || depth > PART_LIMIT || !program.has(node)) {
                return 0;
            }
            steps++;
            int kind = program.kindAt(node);
            switch (kind) {
                case NUMBER:
                    return program.valueAt(node);
                case REGISTER:
                    return machine.registerAt(program.valueAt(node));
                case COUNT:
                    return machine.count;
                case OLD:
                    return workedBefore ? rememberedAt(node) : work(program.leftOf(node), depth + 1);
                case CHANGED:
                    return workChanged(node, depth);
                case BYTE: case HALF: case WORD:
                    return access(kind, work(program.leftOf(node), depth + 1));
                case NOT: case COMPLEMENT: case NEGATE:
                    return before(kind, work(program.leftOf(node), depth + 1));
                case OR: case AND:
                    return workTruth(node, depth);
                default:
                    return workBetween(node, depth);
            }
        }

        private long workChanged(int node, int depth) {
            long now = work(program.leftOf(node), depth + 1);
            return truth(workedBefore && now != rememberedAt(node));
        }

        private long workTruth(int node, int depth) {
            boolean left = work(program.leftOf(node), depth + 1) != 0;
            boolean decides = program.kindAt(node) == OR;
            if (left == decides) {
                return truth(left);
            }
            return truth(work(program.rightOf(node), depth + 1) != 0);
        }

        private long workBetween(int node, int depth) {
            long left = work(program.leftOf(node), depth + 1);
            long right = work(program.rightOf(node), depth + 1);
            int kind = program.kindAt(node);
            if (kind == DIVIDE || kind == REMAINDER) {
                return divide(kind, left, right);
            }
            return compares(kind) ? truth(compare(kind, left, right)) : combine(kind, left, right);
        }

        private long divide(int kind, long left, long right) {
            if (failure != 0) {
                return 0;
            }
            if (right == 0) {
                failure = DIVISION_BY_ZERO;
                return 0;
            }
            return kind == DIVIDE ? left / right : left % right;
        }

        private long access(int kind, long address) {
            if (failure != 0) {
                return 0;
            }
            int size = kind == WORD ? 4 : kind == HALF ? 2 : 1;
            if (address < 0 || address >= CELLS || (address & (size - 1)) != 0) {
                failure = WRONG_ADDRESS;
                return 0;
            }
            int place = (int) address;
            if (kind == BYTE) {
                return machine.byteAt(place);
            }
            return kind == HALF ? machine.halfAt(place) : machine.wordAt(place);
        }

        private static long before(int kind, long value) {
            switch (kind) {
                case NOT:
                    return truth(value == 0);
                case COMPLEMENT:
                    return ~value;
                default:
                    return -value;
            }
        }

        private static boolean compare(int kind, long left, long right) {
            switch (kind) {
                case EQUAL:
                    return left == right;
                case UNEQUAL:
                    return left != right;
                case LESS:
                    return left < right;
                case AT_MOST:
                    return left <= right;
                case MORE:
                    return left > right;
                default:
                    return left >= right;
            }
        }

        private static long combine(int kind, long left, long right) {
            switch (kind) {
                case BIT_OR:
                    return left | right;
                case BIT_XOR:
                    return left ^ right;
                case BIT_AND:
                    return left & right;
                case SHIFT_LEFT:
                    return left << (right & 63);
                case SHIFT_RIGHT:
                    return left >> (right & 63);
                case PLUS:
                    return left + right;
                case MINUS:
                    return left - right;
                default:
                    return left * right;
            }
        }

        private static long truth(boolean holds) {
            return holds ? 1 : 0;
        }
    }

    /** One of the eight places for conditions, with what is counted of the one that is there. */
    private static final class Condition {
        private final Worker worker;
        private boolean there = false;
        private int ignoring = 0;
        private long value = 0;
        private long hits = 0;
        private long failures = 0;
        private long steps = 0;

        private Condition(Machine machine) {
            worker = new Worker(machine);
        }

        private void begin(Program built) {
            worker.begin(built);
            there = true;
            ignoring = 0;
            value = 0;
            hits = 0;
            failures = 0;
            steps = 0;
        }

        /** What ask answers. */
        private int answer() {
            value = worker.workAll();
            steps = worker.steps;
            if (worker.failure != 0) {
                failures++;
                return -worker.failure;
            }
            if (value == 0) {
                return 0;
            }
            if (ignoring > 0) {
                ignoring--;
                return 0;
            }
            hits++;
            return 1;
        }

        private long tell(int what) {
            switch (what) {
                case 0:
                    return value;
                case 1:
                    return hits;
                case 2:
                    return ignoring;
                case 3:
                    return steps;
                case 4:
                    return worker.program.parts;
                default:
                    return failures;
            }
        }
    }
}
