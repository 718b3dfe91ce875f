/** The boundary cases of promise 12. */
public final class Promise12BoundaryTest {
    public static void main(String[] args) {
        noCharacterAndAllOfThem();
        noConditionAndAllOfThem();
        noStepAndAllThatEverWere();
        others();
        Check.end();
    }

    private static void noCharacterAndAllOfThem() {
        Check.sentence(12, "what = 0 characters of the text");
        ConditionDesk desk = new ConditionDesk();
        Check.due("count(0) of none", desk.count(0), 0);
        for (int i = 1; i <= 120; i++) {
            desk.type(' ');
            Check.due("count(0)", desk.count(0), i);
        }
        desk.type(' ');
        Check.due("count(0) behind a refused one", desk.count(0), 120);
        Check.illegalArgument("compile(8)", () -> desk.compile(8));
        Check.due("count(0) behind a refused call", desk.count(0), 120);
        desk.compile(0);
        Check.due("count(0) behind a fault", desk.count(0), 0);
    }

    private static void noConditionAndAllOfThem() {
        Check.sentence(12, "1 conditions that are there");
        ConditionDesk desk = new ConditionDesk();
        Check.due("count(1) of none", desk.count(1), 0);
        for (int k = 7; k >= 0; k--) {
            Check.compiled(desk, k, "1");
            Check.due("count(1)", desk.count(1), 8 - k);
        }
        Check.compiled(desk, 0, "2");
        Check.due("count(1), one in place of another", desk.count(1), 8);
        Check.due("compile of a fault", Check.typed(desk, "y").compile(0), 2);
        Check.due("count(1) behind a fault", desk.count(1), 8);
        for (int k = 0; k < 8; k++) {
            desk.drop(k);
            Check.due("count(1)", desk.count(1), 7 - k);
        }
        desk.drop(0);
        Check.due("count(1), not below 0", desk.count(1), 0);
    }

    private static void noStepAndAllThatEverWere() {
        Check.sentence(12, "2 all steps that were ever worked");
        ConditionDesk desk = Check.desk("1+2");
        Check.due("count(2) before anything is asked", desk.count(2), 0);
        desk.ask(0);
        Check.due("count(2)", desk.count(2), 3);
        Check.illegalState("ask(1)", () -> desk.ask(1));
        Check.illegalArgument("ask(8)", () -> desk.ask(8));
        Check.due("count(2) behind refused calls", desk.count(2), 3);
        desk.drop(0);
        Check.due("count(2), the condition is gone", desk.count(2), 3);
        Check.compiled(desk, 0, "1/0");
        Check.due("count(2), another is there", desk.count(2), 3);
        desk.ask(0);
        Check.due("count(2), a failing one", desk.count(2), 6);
        Check.compiled(desk, 0, "!".repeat(39) + "1");
        for (int i = 1; i <= 100; i++) {
            desk.ask(0);
        }
        Check.due("count(2), the most steps a hundred times", desk.count(2), 6 + 40 * 100);
    }

    private static void others() {
        Check.sentence(12, "-1 for others");
        ConditionDesk desk = Check.desk("1");
        for (int what : new int[] {-1, 3, 4, 256, 258, Integer.MIN_VALUE, Integer.MAX_VALUE}) {
            Check.due("count(" + what + ")", desk.count(what), -1);
        }
    }
}
