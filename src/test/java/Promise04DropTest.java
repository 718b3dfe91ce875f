/** Promise 4: drop takes a condition away and tells whether it was there. */
public final class Promise04DropTest {
    public static void main(String[] args) {
        ConditionDesk desk = new ConditionDesk();
        for (int k : new int[] {-1, 8, Integer.MIN_VALUE, Integer.MAX_VALUE}) {
            Check.illegalArgument("drop(" + k + ")", () -> desk.drop(k) ? 1 : 0);
        }
        for (int k = 0; k < 8; k++) {
            Check.compiled(desk, k, "1");
        }
        for (int k = 7; k >= 0; k--) {
            int which = k;
            Check.due("drop(" + k + ")", desk.drop(k), true);
            Check.due("conditions", desk.count(1), k);
            Check.due("askAll()", desk.askAll(), (1 << k) - 1);
            Check.illegalState("ask of a dropped one", () -> desk.ask(which));
            Check.illegalState("about of a dropped one", () -> desk.about(which, 0));
            Check.illegalState("ignore of a dropped one", () -> desk.ignore(which, 0));
            Check.due("drop(" + k + ") again", desk.drop(k), false);
        }
        textAndStepsStay();
        Check.end();
    }

    private static void textAndStepsStay() {
        ConditionDesk desk = Check.desk("old(x1)");
        desk.ask(0);
        desk.ignore(0, 4);
        Check.typed(desk, "old(x1)");
        Check.due("drop(0)", desk.drop(0), true);
        Check.due("characters", desk.count(0), 7);
        Check.due("all steps", desk.count(2), 2);
        Check.due("compile(0)", desk.compile(0), 0);
        Check.due("hits", desk.about(0, 1), 0);
        Check.due("ignores", desk.about(0, 2), 0);
        desk.set(1, 8);
        Check.asked(desk, "the new one, which remembers nothing", 1, 8, 2);
    }
}
