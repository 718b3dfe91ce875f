/** Promise 11: about tells of one condition. */
public final class Promise11AboutTest {
    public static void main(String[] args) {
        wrongArguments();
        beforeItIsAsked();
        afterItIsAsked();
        Check.end();
    }

    private static void wrongArguments() {
        ConditionDesk desk = Check.desk("1");
        for (int k : new int[] {-1, 8, Integer.MIN_VALUE, Integer.MAX_VALUE}) {
            Check.illegalArgument("about(" + k + ", 0)", () -> desk.about(k, 0));
        }
        for (int what : new int[] {-1, 6, Integer.MIN_VALUE, Integer.MAX_VALUE}) {
            Check.illegalArgument("about(0, " + what + ")", () -> desk.about(0, what));
            Check.illegalArgument("about(1, " + what + ")", () -> desk.about(1, what));
        }
        for (int what = 0; what < 6; what++) {
            int which = what;
            Check.illegalState("about(7, " + what + ")", () -> desk.about(7, which));
        }
    }

    private static void beforeItIsAsked() {
        ConditionDesk desk = Check.compiled(new ConditionDesk(), 7, "(1+[0])");
        long[] want = {0, 0, 0, 0, 5, 0};
        for (int what = 0; what < 6; what++) {
            Check.due("about(7, " + what + ")", desk.about(7, what), want[what]);
        }
    }

    private static void afterItIsAsked() {
        ConditionDesk desk = Check.desk("12/x1-3");
        int[] given = {1, 0, 4, 2, 0, 3, 6};
        long[] values = {9, 0, 0, 3, 0, 1, -1};
        long[] hits = {1, 1, 1, 1, 1, 2, 3};
        long[] ignores = {0, 1, 1, 0, 0, 0, 0};
        long[] steps = {5, 4, 5, 5, 4, 5, 5};
        long[] failures = {0, 1, 1, 1, 2, 2, 2};
        for (int i = 0; i < given.length; i++) {
            desk.set(1, given[i]);
            desk.ask(0);
            Check.due("value " + i, desk.about(0, 0), values[i]);
            Check.due("hits " + i, desk.about(0, 1), hits[i]);
            Check.due("ignores " + i, desk.about(0, 2), ignores[i]);
            Check.due("steps " + i, desk.about(0, 3), steps[i]);
            Check.due("parts " + i, desk.about(0, 4), 5);
            Check.due("failures " + i, desk.about(0, 5), failures[i]);
            if (i == 0) {
                desk.ignore(0, 1);
            }
        }
    }
}
