/** Promise 8: ignore passes the next hits over and tells how many were ignored still. */
public final class Promise08IgnoreTest {
    public static void main(String[] args) {
        wrongArguments();
        passesOver();
        onlyThoseThatHold();
        byAskAll();
        Check.end();
    }

    private static void wrongArguments() {
        ConditionDesk desk = Check.desk("1");
        for (int k : new int[] {-1, 8, Integer.MIN_VALUE, Integer.MAX_VALUE}) {
            Check.illegalArgument("ignore(" + k + ", 0)", () -> desk.ignore(k, 0));
        }
        for (int n : new int[] {-1, 1001, Integer.MIN_VALUE, Integer.MAX_VALUE}) {
            Check.illegalArgument("ignore(0, " + n + ")", () -> desk.ignore(0, n));
            Check.illegalArgument("ignore(1, " + n + ")", () -> desk.ignore(1, n));
        }
        Check.illegalState("ignore(1, 0)", () -> desk.ignore(1, 0));
        Check.illegalState("ignore(7, 1000)", () -> desk.ignore(7, 1000));
        Check.due("ignore(0, 1000)", desk.ignore(0, 1000), 0);
        Check.due("ignore(0, 0)", desk.ignore(0, 0), 1000);
        Check.due("ignore(0, 1)", desk.ignore(0, 1), 0);
    }

    private static void passesOver() {
        ConditionDesk desk = Check.desk("7");
        Check.due("ignore(0, 3)", desk.ignore(0, 3), 0);
        for (int left = 2; left >= 0; left--) {
            Check.asked(desk, "an ignored one", 0, 7, 1);
            Check.due("ignores", desk.about(0, 2), left);
            Check.due("hits", desk.about(0, 1), 0);
        }
        Check.due("ask(0)", desk.ask(0), 1);
        Check.due("hits", desk.about(0, 1), 1);
        desk.ignore(0, 5);
        desk.ask(0);
        Check.due("ignore(0, 1) sets, adds not", desk.ignore(0, 1), 4);
        Check.due("ask(0)", desk.ask(0), 0);
        Check.due("ask(0)", desk.ask(0), 1);
        Check.due("hits", desk.about(0, 1), 2);
    }

    private static void onlyThoseThatHold() {
        ConditionDesk desk = Check.desk("6/x1>2");
        desk.ignore(0, 1);
        Check.due("a failing one", desk.ask(0), -1);
        desk.set(1, 3);
        Check.due("one that does not hold", desk.ask(0), 0);
        Check.due("ignores", desk.about(0, 2), 1);
        desk.set(1, 2);
        Check.due("one that holds", desk.ask(0), 0);
        Check.due("ignores", desk.about(0, 2), 0);
        Check.due("one that holds", desk.ask(0), 1);
    }

    private static void byAskAll() {
        ConditionDesk desk = Check.desk("1");
        Check.compiled(desk, 4, "1");
        desk.ignore(4, 1);
        Check.due("askAll()", desk.askAll(), 1);
        Check.due("askAll()", desk.askAll(), 17);
        Check.due("hits of 4", desk.about(4, 1), 1);
    }
}
