import java.math.BigInteger;
import java.util.ArrayList;
import java.util.List;
import java.util.regex.Matcher;
import java.util.regex.Pattern;

/**
 * The document's words a second time, in the way that is nearest to them and shares nothing with the class: a parser
 * that descends, and for old a history of the whole machine, in which e is worked anew.
 */
final class Model {
    private static final Pattern TOKEN = Pattern.compile(
        " *([0-9][0-9A-Za-z]*|[A-Za-z][0-9A-Za-z]*|\\|\\||&&|==|!=|<=|>=|<<|>>|[^ ]|$)");
    private static final String[][] LEVELS = {
        {"||"}, {"&&"}, {"==", "!=", "<", "<=", ">", ">="}, {"|"}, {"^"}, {"&"}, {"<<", ">>"}, {"+", "-"},
        {"*", "/", "%"},
    };
    private static final BigInteger LIMIT = BigInteger.ONE.shiftLeft(32);

    static final class Fault extends RuntimeException {
        final int answer;

        Fault(int number, int place) {
            answer = number + 8 * place;
        }
    }

    static final class Failure extends RuntimeException {
        final int number;

        Failure(int number) {
            this.number = number;
        }
    }

    static final class Node {
        final String sign;
        final Node left;
        final Node right;
        final long number;

        Node(String sign, Node left, Node right, long number) {
            this.sign = sign;
            this.left = left;
            this.right = right;
            this.number = number;
        }
    }

    static final class State {
        final int[] registers = new int[34];
        final int[] cells = new int[256];
        long count;

        State copy() {
            State copy = new State();
            System.arraycopy(registers, 0, copy.registers, 0, 34);
            System.arraycopy(cells, 0, copy.cells, 0, 256);
            copy.count = count;
            return copy;
        }
    }

    static final class Condition {
        Node root;
        int parts;
        final List<State> history = new ArrayList<>();
        long value;
        long hits;
        int ignoring;
        long steps;
        long failures;
    }

    final StringBuilder text = new StringBuilder();
    final State machine = new State();
    final Condition[] conditions = new Condition[8];
    long allSteps;

    private final List<String> tokens = new ArrayList<>();
    private final List<Integer> places = new ArrayList<>();
    private int at;
    private int parts;
    private int open;
    private long steps;

    boolean type(char c) {
        if (c < 32 || c > 126 || text.length() == 120) {
            return false;
        }
        text.append(c);
        return true;
    }

    int compile(int k) {
        argument(k >= 0 && k < 8);
        String source = text.toString();
        text.setLength(0);
        cut(source);
        try {
            Node root = level(0);
            if (!token().isEmpty()) {
                throw fault(1);
            }
            conditions[k] = new Condition();
            conditions[k].root = root;
            conditions[k].parts = parts;
            return 0;
        } catch (Fault fault) {
            return fault.answer;
        }
    }

    boolean drop(int k) {
        argument(k >= 0 && k < 8);
        boolean was = conditions[k] != null;
        conditions[k] = null;
        return was;
    }

    void set(int r, int v) {
        argument(r >= 0 && r < 34);
        machine.registers[r] = r == 0 ? 0 : v;
    }

    void poke(int address, int v) {
        argument(address >= 0 && address < 256);
        machine.cells[address] = v & 0xff;
    }

    int ignore(int k, int n) {
        argument(k >= 0 && k < 8 && n >= 0 && n <= 1000);
        Condition condition = there(k);
        int was = condition.ignoring;
        condition.ignoring = n;
        return was;
    }

    int ask(int k) {
        argument(k >= 0 && k < 8);
        Condition condition = there(k);
        condition.history.add(machine.copy());
        steps = 0;
        int answer;
        try {
            condition.value = work(condition, condition.root, condition.history.size() - 1);
            answer = 0;
            if (condition.value != 0 && condition.ignoring > 0) {
                condition.ignoring--;
            } else if (condition.value != 0) {
                condition.hits++;
                answer = 1;
            }
        } catch (Failure failure) {
            condition.value = 0;
            condition.failures++;
            answer = -failure.number;
        }
        condition.steps = steps;
        allSteps += steps;
        return answer;
    }

    int askAll() {
        int bits = 0;
        for (int k = 0; k < 8; k++) {
            if (conditions[k] != null && ask(k) == 1) {
                bits += 1 << k;
            }
        }
        return bits;
    }

    long about(int k, int what) {
        argument(k >= 0 && k < 8 && what >= 0 && what < 6);
        Condition c = there(k);
        return new long[] {c.value, c.hits, c.ignoring, c.steps, c.parts, c.failures}[what];
    }

    long count(int what) {
        long there = 0;
        for (Condition condition : conditions) {
            there += condition == null ? 0 : 1;
        }
        return what == 0 ? text.length() : what == 1 ? there : what == 2 ? allSteps : -1;
    }

    private static void argument(boolean good) {
        if (!good) {
            throw new IllegalArgumentException();
        }
    }

    private Condition there(int k) {
        if (conditions[k] == null) {
            throw new IllegalStateException();
        }
        return conditions[k];
    }

    private void cut(String source) {
        tokens.clear();
        places.clear();
        Matcher matcher = TOKEN.matcher(source);
        int from = 0;
        do {
            matcher.region(from, source.length());
            if (!matcher.lookingAt()) {
                throw new AssertionError(source);
            }
            tokens.add(matcher.group(1));
            places.add(matcher.start(1));
            from = matcher.end();
        } while (!matcher.group(1).isEmpty());
        at = 0;
        parts = 0;
        open = 0;
    }

    private String token() {
        return tokens.get(at);
    }

    private Fault fault(int number) {
        return new Fault(number, places.get(at));
    }

    /** Steps over a token that may be here. */
    private void part() {
        if (parts == 40) {
            throw fault(3);
        }
        parts++;
        at++;
    }

    private Node level(int level) {
        if (level == LEVELS.length) {
            return unary();
        }
        Node left = level(level + 1);
        while (List.of(LEVELS[level]).contains(token())) {
            String sign = token();
            part();
            left = new Node(sign, left, level(level + 1), 0);
        }
        return left;
    }

    private Node unary() {
        String sign = token();
        if (sign.equals("!") || sign.equals("-") || sign.equals("~")) {
            part();
            return new Node("before" + sign, unary(), null, 0);
        }
        return primary();
    }

    private Node primary() {
        String token = token();
        if (token.equals("(")) {
            return bracket("(", ")");
        }
        if (token.equals("[")) {
            return new Node("word", bracket("[", "]"), null, 0);
        }
        if (token.matches("[0-9]+|0x[0-9a-f]+")) {
            boolean hex = token.startsWith("0x");
            BigInteger value = new BigInteger(hex ? token.substring(2) : token, hex ? 16 : 10);
            if (value.compareTo(LIMIT) < 0) {
                part();
                return new Node("number", null, null, value.longValue());
            }
        }
        if (!token.matches("[A-Za-z].*")) {
            throw fault(1);
        }
        return word(token);
    }

    private Node word(String token) {
        if (token.matches("x([0-9]|[12][0-9]|3[01])")) {
            part();
            return new Node("register", null, null, Integer.parseInt(token.substring(1)));
        }
        switch (token) {
            case "pc":
                part();
                return new Node("register", null, null, 32);
            case "pid":
                part();
                return new Node("register", null, null, 33);
            case "count":
                part();
                return new Node("count", null, null, 0);
            case "byte": case "half":
                part();
                return new Node(token, bracket("[", "]"), null, 0);
            case "old": case "changed":
                part();
                return new Node(token, bracket("(", ")"), null, 0);
            default:
                throw fault(2);
        }
    }

    private Node bracket(String opening, String closing) {
        if (!token().equals(opening)) {
            throw fault(1);
        }
        if (open == 8 && parts < 40) {
            throw fault(4);
        }
        part();
        open++;
        Node inner = level(0);
        if (!token().equals(closing)) {
            throw fault(1);
        }
        at++;
        open--;
        return inner;
    }

    private long work(Condition condition, Node node, int time) {
        steps++;
        State state = condition.history.get(time);
        switch (node.sign) {
            case "number":
                return node.number;
            case "register":
                return state.registers[(int) node.number];
            case "count":
                return state.count;
            case "word": case "half": case "byte":
                return cells(state, node.sign, work(condition, node.left, time));
            case "old":
                return time == 0 ? work(condition, node.left, 0) : old(condition, node.left, time);
            case "changed":
                long now = work(condition, node.left, time);
                return time == 0 || now == old(condition, node.left, time) ? 0 : 1;
            case "before!":
                return work(condition, node.left, time) == 0 ? 1 : 0;
            case "before-":
                return 0 - work(condition, node.left, time);
            case "before~":
                return -1 - work(condition, node.left, time);
            case "||":
                return work(condition, node.left, time) != 0 || work(condition, node.right, time) != 0 ? 1 : 0;
            case "&&":
                return work(condition, node.left, time) != 0 && work(condition, node.right, time) != 0 ? 1 : 0;
            default:
                long left = work(condition, node.left, time);
                return between(node.sign, BigInteger.valueOf(left),
                    BigInteger.valueOf(work(condition, node.right, time)));
        }
    }

    private long old(Condition condition, Node node, int time) {
        long kept = steps;
        try {
            return work(condition, node, time - 1);
        } catch (Failure failure) {
            return 0;
        } finally {
            steps = kept;
        }
    }

    private static long cells(State state, String sort, long address) {
        int size = sort.equals("word") ? 4 : sort.equals("half") ? 2 : 1;
        if (address < 0 || address > 255 || address % size != 0) {
            throw new Failure(2);
        }
        long sum = 0;
        long weight = 1;
        for (int i = 0; i < size; i++) {
            sum += weight * state.cells[(int) address + i];
            weight *= 256;
        }
        return size > 1 && sum >= weight / 2 ? sum - weight : sum;
    }

    private static long between(String sign, BigInteger a, BigInteger b) {
        int order = a.compareTo(b);
        int shift = b.mod(BigInteger.valueOf(64)).intValue();
        switch (sign) {
            case "==":
                return order == 0 ? 1 : 0;
            case "!=":
                return order != 0 ? 1 : 0;
            case "<":
                return order < 0 ? 1 : 0;
            case "<=":
                return order <= 0 ? 1 : 0;
            case ">":
                return order > 0 ? 1 : 0;
            case ">=":
                return order >= 0 ? 1 : 0;
            case "|":
                return a.or(b).longValue();
            case "^":
                return a.xor(b).longValue();
            case "&":
                return a.and(b).longValue();
            case "<<":
                return a.shiftLeft(shift).longValue();
            case ">>":
                return a.shiftRight(shift).longValue();
            case "+":
                return a.add(b).longValue();
            case "-":
                return a.subtract(b).longValue();
            case "*":
                return a.multiply(b).longValue();
            default:
                if (b.signum() == 0) {
                    throw new Failure(1);
                }
                return (sign.equals("/") ? a.divide(b) : a.remainder(b)).longValue();
        }
    }
}
