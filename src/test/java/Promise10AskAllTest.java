/** Promise 10: askAll asks all conditions that are there. */
public final class Promise10AskAllTest {
    public static void main(String[] args) {
        bits();
        everythingOfAsk();
        Check.end();
    }

    private static void bits() {
        ConditionDesk desk = new ConditionDesk();
        Check.due("askAll() of none", desk.askAll(), 0);
        for (int k = 0; k < 8; k++) {
            Check.compiled(desk, k, "x1>>" + k + "&1");
        }
        for (int v : new int[] {0, 255, 1, 128, 0x5a, 0xa5, -1}) {
            desk.set(1, v);
            Check.due("askAll()", desk.askAll(), v & 255);
        }
        desk.drop(3);
        Check.due("askAll()", desk.askAll(), 0xf7);
        Check.due("steps", desk.count(2), 5 * (8 * 7 + 7));
    }

    private static void everythingOfAsk() {
        ConditionDesk desk = Check.desk("6/x1");
        Check.compiled(desk, 2, "[x2]+1");
        Check.compiled(desk, 5, "-1");
        Check.compiled(desk, 6, "old(x3)");
        desk.ignore(5, 1);
        desk.set(2, 1);
        Check.due("askAll()", desk.askAll(), 0);
        Check.due("failures of 0", desk.about(0, 5), 1);
        Check.due("failures of 2", desk.about(2, 5), 1);
        Check.due("ignores of 5", desk.about(5, 2), 0);
        Check.due("value of 5", desk.about(5, 0), -1);
        desk.set(1, 6);
        desk.set(2, 0);
        desk.set(3, 1);
        Check.due("askAll()", desk.askAll(), 1 + 4 + 32);
        Check.due("askAll()", desk.askAll(), 1 + 4 + 32 + 64);
        Check.due("hits of 5", desk.about(5, 1), 2);
        Check.due("hits of 6", desk.about(6, 1), 1);
        Check.due("steps of 0", desk.about(0, 3), 3);
        Check.due("steps of 2", desk.about(2, 3), 4);
        Check.due("steps of 6", desk.about(6, 3), 1);
        Check.due("all steps", desk.count(2), (3 + 3 + 2 + 2) + (3 + 4 + 2 + 1) + (3 + 4 + 2 + 1));
    }
}
