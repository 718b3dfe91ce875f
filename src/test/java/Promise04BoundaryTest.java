/** The boundary cases of promise 4. */
public final class Promise04BoundaryTest {
    public static void main(String[] args) {
        theFirstAndTheLast();
        notThere();
        onlyThatOne();
        noSuchCondition();
        Check.end();
    }

    private static void theFirstAndTheLast() {
        Check.sentence(4, "Condition k goes: whether it was there");
        ConditionDesk desk = Check.compiled(Check.desk("1"), 7, "1");
        Check.due("drop(0)", desk.drop(0), true);
        Check.due("count(1)", desk.count(1), 1);
        Check.illegalState("ask(0)", () -> desk.ask(0));
        Check.due("drop(7)", desk.drop(7), true);
        Check.due("count(1)", desk.count(1), 0);
        Check.illegalState("ask(7)", () -> desk.ask(7));
        Check.due("askAll()", desk.askAll(), 0);
    }

    private static void notThere() {
        Check.sentence(4, "whether it was there");
        ConditionDesk desk = Check.desk("1");
        Check.due("drop of one that never was", desk.drop(1), false);
        Check.due("drop of one that was", desk.drop(0), true);
        Check.due("drop of one that went", desk.drop(0), false);
        Check.due("count(1)", desk.count(1), 0);
        Check.compiled(desk, 0, "1");
        Check.due("drop of one that came again", desk.drop(0), true);
        Check.due("compile of a fault", Check.typed(desk, "(").compile(0), 9);
        Check.due("drop of one that a fault kept from coming", desk.drop(0), false);
    }

    private static void onlyThatOne() {
        Check.sentence(4, "Condition k goes");
        ConditionDesk desk = new ConditionDesk();
        for (int k = 0; k < 8; k++) {
            Check.compiled(desk, k, "1");
        }
        desk.drop(3);
        Check.due("askAll()", desk.askAll(), 0xf7);
        Check.due("count(1)", desk.count(1), 7);
    }

    private static void noSuchCondition() {
        Check.sentence(4, "IllegalArgumentException when k is not 0 .. 7");
        ConditionDesk desk = Check.typed(Check.compiled(Check.desk("1"), 7, "1"), "2");
        String before = Check.state(desk);
        for (int k : new int[] {-1, 8, -8, 15, 32, 256, Integer.MIN_VALUE, Integer.MAX_VALUE}) {
            Check.illegalArgument("drop(" + k + ")", () -> desk.drop(k) ? 1 : 0);
        }
        Check.same("the state behind refused calls", Check.state(desk), before);
    }
}
