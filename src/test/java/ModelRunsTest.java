import java.util.Random;
import java.util.function.LongSupplier;

/** Many runs of made-up calls (always the same ones), on the class and on the model beside it. */
public final class ModelRunsTest {
    private static final int RUNS = 6000;
    private static final int CALLS = 512;
    private static final String[] BETWEEN = {"||", "&&", "==", "!=", "<=", ">=", "<<", ">>", "<", ">", "|", "^", "&",
        "+", "-", "*", "/", "%", "/", "&&", "||", "+"};
    private static final String[] ODD = {"x32", "x07", "x", "old", "byte", "half(", "12a", "0x", "4294967296", "=",
        "$", ")", "]", "(", "[", "foo", "! =", "||", "~", "changed", "((((((((", "[[[[[[[", "[(((byte[old(([(",
        "!!!!!!!!!!!!!!!!!!!!!!!!!!!!!!!!!!", "1 2", "old(("};

    private final Random random;
    private final ConditionDesk desk = new ConditionDesk();
    private final Model model = new Model();
    private final StringBuilder told = new StringBuilder();
    private int calls = 0;

    private ModelRunsTest(long seed) {
        random = new Random(seed);
    }

    public static void main(String[] args) {
        int runs = args.length > 0 ? Integer.parseInt(args[0]) : RUNS;
        int[] seen = new int[5];
        for (int seed = 0; seed < runs; seed++) {
            if (!new ModelRunsTest(seed).run(seen)) {
                Check.due("run " + seed + " is as the model's", 0, 1);
                break;
            }
        }
        // A run without some sort of outcome would test less than it seems to.
        for (int fault = 0; fault < 5; fault++) {
            Check.due("compile ended with " + fault + " often", seen[fault] > runs / 100, true);
        }
        System.out.println("compiled " + seen[0] + ", faults 1 to 4: " + seen[1] + ", " + seen[2] + ", " + seen[3]
            + ", " + seen[4]);
        Check.end();
    }

    private boolean run(int[] seen) {
        while (calls < CALLS - 125) {
            boolean same = random.nextInt(12) == 0 ? compileOne(seen) : otherCall();
            if (!same) {
                System.out.println(told);
                return false;
            }
        }
        return true;
    }

    private boolean compileOne(int[] seen) {
        String text = text();
        for (int i = 0; i < text.length(); i++) {
            char c = text.charAt(i);
            if (!same("type " + c, () -> desk.type(c) ? 1 : 0, () -> model.type(c) ? 1 : 0)) {
                return false;
            }
        }
        int k = which();
        return same("compile " + k, () -> {
            int answer = desk.compile(k);
            seen[answer & 7]++;
            return answer;
        }, () -> model.compile(k));
    }

    private boolean otherCall() {
        int k = which();
        switch (random.nextInt(12)) {
            case 0: case 1:
                int r = random.nextInt(20) == 0 ? random.nextInt(40) - 3 : pick(0, 1, 2, 3, 32, 33);
                int v = smallOrLarge();
                return same("set " + r + " " + v, () -> {
                    desk.set(r, v);
                    return 0;
                }, () -> {
                    model.set(r, v);
                    return 0;
                });
            case 2:
                int address = random.nextInt(20) == 0 ? random.nextInt(300) - 20 : random.nextInt(8);
                int b = smallOrLarge();
                return same("poke " + address + " " + b, () -> {
                    desk.poke(address, b);
                    return 0;
                }, () -> {
                    model.poke(address, b);
                    return 0;
                });
            case 3:
                long count = random.nextInt(3) == 0 ? random.nextLong() : random.nextInt(4);
                desk.go(count);
                model.machine.count = count;
                calls++;
                told.append("go ").append(count).append('\n');
                return true;
            case 4:
                int n = random.nextInt(5) == 0 ? pick(-1, 1000, 1001) : random.nextInt(3);
                return same("ignore " + k + " " + n, () -> desk.ignore(k, n), () -> model.ignore(k, n));
            case 5:
                return same("askAll", desk::askAll, model::askAll);
            case 6:
                return random.nextInt(5) > 0
                    || same("drop " + k, () -> desk.drop(k) ? 1 : 0, () -> model.drop(k) ? 1 : 0);
            case 7:
                int of = random.nextInt(5) - 1;
                return same("count " + of, () -> desk.count(of), () -> model.count(of));
            case 8: case 9:
                return same("ask " + k, () -> desk.ask(k), () -> model.ask(k)) && aboutAll(k);
            default:
                int what = random.nextInt(8) - 1;
                return same("about " + k + " " + what, () -> desk.about(k, what), () -> model.about(k, what));
        }
    }

    private boolean aboutAll(int k) {
        for (int i = 0; i < 6; i++) {
            int what = i;
            if (!same("about " + k + " " + what, () -> desk.about(k, what), () -> model.about(k, what))) {
                return false;
            }
        }
        return true;
    }

    private boolean same(String call, LongSupplier real, LongSupplier wanted) {
        calls++;
        String got = answer(real);
        String want = answer(wanted);
        told.append(call).append(": ").append(got).append(", the model ").append(want).append('\n');
        return got.equals(want);
    }

    private static String answer(LongSupplier call) {
        try {
            return Long.toString(call.getAsLong());
        } catch (RuntimeException e) {
            return e.getClass().getName();
        }
    }

    private int which() {
        return random.nextInt(30) == 0 ? random.nextInt(12) - 2 : random.nextInt(4) == 0 ? random.nextInt(8) : 0;
    }

    private int pick(int... of) {
        return of[random.nextInt(of.length)];
    }

    private int smallOrLarge() {
        return random.nextInt(6) == 0 ? random.nextInt() : random.nextInt(9) - 2;
    }

    private String text() {
        StringBuilder made = new StringBuilder();
        expression(made, 1 + random.nextInt(5));
        if (random.nextInt(4) == 0) {
            String odd = ODD[random.nextInt(ODD.length)];
            int place = random.nextInt(made.length() + 1);
            made.replace(place, Math.min(made.length(), place + random.nextInt(3)), odd);
        }
        if (random.nextInt(12) == 0) {
            made.insert(random.nextInt(made.length() + 1), (char) (31 + random.nextInt(98)));
        }
        made.setLength(Math.min(made.length(), 120));
        return made.toString();
    }

    private void expression(StringBuilder made, int depth) {
        operand(made, depth);
        for (int more = random.nextInt(3); more > 0 && depth > 0; more--) {
            blanks(made);
            made.append(BETWEEN[random.nextInt(BETWEEN.length)]);
            blanks(made);
            operand(made, depth - 1);
        }
    }

    private void operand(StringBuilder made, int depth) {
        switch (random.nextInt(depth > 0 ? 13 : 7)) {
            case 0:
                made.append(random.nextInt(5));
                break;
            case 1: case 2:
                made.append('x').append(random.nextInt(4));
                break;
            case 3:
                made.append(random.nextBoolean() ? "count" : random.nextBoolean() ? "pc" : "pid");
                break;
            case 4:
                made.append("0x").append(Integer.toHexString(random.nextInt() >>> random.nextInt(32)));
                break;
            case 5:
                made.append(Integer.toUnsignedString(random.nextInt() >>> random.nextInt(32)));
                break;
            case 6:
                made.append("!-~".charAt(random.nextInt(3)));
                blanks(made);
                operand(made, depth);
                break;
            case 7:
                within(made, "(", ")", depth);
                break;
            case 8:
                within(made, random.nextBoolean() ? "[4*" : "[", "]", depth);
                break;
            case 9:
                within(made, random.nextBoolean() ? "byte[" : "half [", "]", depth);
                break;
            case 10: case 11:
                within(made, "old(", ")", depth);
                break;
            default:
                within(made, "changed(", ")", depth);
                break;
        }
    }

    private void within(StringBuilder made, String opening, String closing, int depth) {
        made.append(opening);
        blanks(made);
        expression(made, depth - 1);
        blanks(made);
        made.append(closing);
    }

    private void blanks(StringBuilder made) {
        for (int more = random.nextInt(8) - 5; more > 0; more--) {
            made.append(' ');
        }
    }
}
