/** The boundary cases of promise 5. */
public final class Promise05BoundaryTest {
    private static final int[] EDGES = {Integer.MIN_VALUE, Integer.MIN_VALUE + 1, -1, 0, 1, Integer.MAX_VALUE};

    public static void main(String[] args) {
        theLeastAndTheGreatestValue();
        xNoughtStays();
        theLastRegister();
        placeAndProcess();
        noSuchRegister();
        Check.end();
    }

    private static void theLeastAndTheGreatestValue() {
        Check.sentence(5, "Register r becomes v");
        edges("x1", 1);
        edges("x31", 31);
    }

    private static void xNoughtStays() {
        Check.sentence(5, "(x0 stays)");
        ConditionDesk desk = Check.desk("x0");
        for (int v : EDGES) {
            desk.set(0, v);
            Check.asked(desk, "x0 behind set(0, " + v + ")", 0, 0, 1);
        }
        Check.compiled(desk, 0, "x1|x31|pc|pid|count");
        Check.asked(desk, "all others", 0, 0, 9);
    }

    /** The 31st is not the place, and the place is not the count. */
    private static void theLastRegister() {
        Check.sentence(5, "Register r becomes v");
        ConditionDesk desk = Check.desk("x31");
        Check.compiled(desk, 1, "x30|pc|pid|count|x1");
        desk.set(31, 5);
        Check.due("x31", desk.ask(0), 1);
        Check.due("all others", desk.ask(1), 0);
    }

    private static void placeAndProcess() {
        Check.sentence(5, "32 the place, 33 the process");
        edges("pc", 32);
        edges("pid", 33);
        ConditionDesk desk = Check.desk("pc*10+pid");
        Check.compiled(desk, 1, "x1|x30|x31|count");
        desk.set(32, 4);
        desk.set(33, 2);
        Check.asked(desk, "the place and the process", 1, 42, 5);
        Check.due("all others", desk.ask(1), 0);
    }

    private static void noSuchRegister() {
        Check.sentence(5, "IllegalArgumentException when r is not 0 .. 33");
        ConditionDesk desk = Check.desk("x1|x2|x31|pc|pid");
        Check.compiled(desk, 1, "count|[0]|[252]");
        for (int r : new int[] {-1, 34, 35, 64, -32, 256, Integer.MIN_VALUE, Integer.MIN_VALUE + 1,
            Integer.MAX_VALUE}) {
            Check.illegalArgument("set(" + r + ", 1)", () -> {
                desk.set(r, 1);
                return 0;
            });
        }
        Check.due("askAll() behind refused calls", desk.askAll(), 0);
    }

    private static void edges(String text, int r) {
        ConditionDesk desk = Check.desk(text);
        for (int v : EDGES) {
            desk.set(r, v);
            Check.asked(desk, text + " behind set(" + r + ", " + v + ")", v == 0 ? 0 : 1, v, 1);
        }
    }
}
