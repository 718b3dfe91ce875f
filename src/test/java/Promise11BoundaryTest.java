/** The boundary cases of promise 11. */
public final class Promise11BoundaryTest {
    public static void main(String[] args) {
        beforeItIsAsked();
        theLeastAndTheGreatestValue();
        theValueOfOneThatFails();
        theStepsOfTheLatest();
        theFewestAndTheMostParts();
        wrongArguments();
        notThere();
        theArgumentComesFirst();
        Check.end();
    }

    private static void beforeItIsAsked() {
        Check.sentence(11, "the value it had when it was asked last (0 before)");
        for (int k = 0; k < 8; k += 7) {
            ConditionDesk desk = Check.compiled(new ConditionDesk(), k, "-1");
            long[] want = {0, 0, 0, 0, 2, 0};
            for (int what = 0; what < 6; what++) {
                Check.due("about(" + k + ", " + what + ")", desk.about(k, what), want[what]);
            }
        }
    }

    private static void theLeastAndTheGreatestValue() {
        Check.sentence(11, "what = 0 the value it had when it was asked last");
        ConditionDesk desk = Check.desk("count");
        for (long count : new long[] {Long.MIN_VALUE, Long.MAX_VALUE, 1L << 32, 0}) {
            desk.go(count);
            desk.ask(0);
            Check.due("about(0, 0)", desk.about(0, 0), count);
            desk.go(77);
            Check.due("about(0, 0), which asks not", desk.about(0, 0), count);
        }
    }

    private static void theValueOfOneThatFails() {
        Check.sentence(11, "then its value is 0");
        ConditionDesk desk = Check.desk("7+x1/x2");
        desk.set(2, 1);
        desk.ask(0);
        Check.due("value", desk.about(0, 0), 7);
        desk.set(2, 0);
        desk.ask(0);
        Check.due("value of a failing one", desk.about(0, 0), 0);
        Check.due("hits", desk.about(0, 1), 1);
        Check.due("failures", desk.about(0, 5), 1);
    }

    private static void theStepsOfTheLatest() {
        Check.sentence(11, "3 the steps of the latest asking");
        ConditionDesk desk = Check.desk("x1||x2||x3");
        desk.ask(0);
        Check.due("steps of all", desk.about(0, 3), 5);
        desk.set(1, 1);
        desk.ask(0);
        Check.due("steps of the least", desk.about(0, 3), 3);
        Check.due("all steps", desk.count(2), 8);
    }

    private static void theFewestAndTheMostParts() {
        Check.sentence(11, "4 its parts");
        Check.good("0", 1);
        Check.good("-".repeat(39) + "0", 40);
    }

    private static void wrongArguments() {
        Check.sentence(11, "IllegalArgumentException when k or what is not as said");
        ConditionDesk desk = Check.compiled(Check.desk("1"), 7, "1");
        String before = Check.state(desk);
        for (int k : new int[] {-1, 8, 256, Integer.MIN_VALUE, Integer.MAX_VALUE}) {
            Check.illegalArgument("about(" + k + ", 0)", () -> desk.about(k, 0));
            Check.illegalArgument("about(" + k + ", 6)", () -> desk.about(k, 6));
        }
        for (int what : new int[] {-1, 6, 7, 256, Integer.MIN_VALUE, Integer.MAX_VALUE}) {
            Check.illegalArgument("about(0, " + what + ")", () -> desk.about(0, what));
            Check.illegalArgument("about(7, " + what + ")", () -> desk.about(7, what));
        }
        Check.same("the state behind refused calls", Check.state(desk), before);
    }

    private static void notThere() {
        Check.sentence(11, "else IllegalStateException when it isn't there");
        ConditionDesk desk = Check.desk("1");
        for (int k = 1; k < 8; k++) {
            for (int what = 0; what < 6; what++) {
                int which = k;
                int asked = what;
                Check.illegalState("about(" + k + ", " + what + ")", () -> desk.about(which, asked));
            }
        }
        desk.drop(0);
        Check.illegalState("about of one that went", () -> desk.about(0, 0));
    }

    private static void theArgumentComesFirst() {
        Check.sentence(11, "IllegalArgumentException when k or what is not as said; else IllegalStateException");
        ConditionDesk desk = new ConditionDesk();
        Check.illegalArgument("about(0, -1)", () -> desk.about(0, -1));
        Check.illegalArgument("about(7, 6)", () -> desk.about(7, 6));
    }
}
