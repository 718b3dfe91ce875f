/** The boundary cases of promise 8, and of the ignoring that the terms tell. */
public final class Promise08BoundaryTest {
    public static void main(String[] args) {
        noneAndAllThatMayBe();
        theLastThatIsIgnored();
        itIgnoresNoneAgain();
        inPlaceOfTheRest();
        onlyThoseThatHoldArePassedOver();
        manyThatAreIgnored();
        wrongArguments();
        notThere();
        theArgumentComesFirst();
        Check.end();
    }

    private static void noneAndAllThatMayBe() {
        Check.sentence(8, "Condition k ignores the next n hits");
        ConditionDesk desk = Check.compiled(Check.desk("1"), 7, "1");
        for (int k = 0; k < 8; k += 7) {
            Check.due("ignore(k, 0)", desk.ignore(k, 0), 0);
            Check.due("ignores", desk.about(k, 2), 0);
            Check.due("ask, ignoring none", desk.ask(k), 1);
            Check.due("ignore(k, 1000)", desk.ignore(k, 1000), 0);
            Check.due("ignores", desk.about(k, 2), 1000);
            Check.due("ask, ignoring 1000", desk.ask(k), 0);
            Check.due("ignores", desk.about(k, 2), 999);
            Check.due("hits", desk.about(k, 1), 1);
        }
    }

    private static void theLastThatIsIgnored() {
        Check.sentence(8, "the first ones, as many as it is to IGNORE, are passed over");
        ConditionDesk desk = Check.desk("1");
        desk.ignore(0, 2);
        Check.due("the first", desk.ask(0), 0);
        Check.due("ignores", desk.about(0, 2), 1);
        Check.due("the second", desk.ask(0), 0);
        Check.due("ignores", desk.about(0, 2), 0);
        Check.due("hits", desk.about(0, 1), 0);
        Check.due("the third", desk.ask(0), 1);
        Check.due("ignores, not below 0", desk.about(0, 2), 0);
        Check.due("hits", desk.about(0, 1), 1);
    }

    private static void itIgnoresNoneAgain() {
        Check.sentence(8, "ignores the next n hits");
        ConditionDesk desk = Check.desk("1");
        desk.ignore(0, 1000);
        Check.due("ignore(0, 0)", desk.ignore(0, 0), 1000);
        Check.due("ask(0)", desk.ask(0), 1);
    }

    private static void inPlaceOfTheRest() {
        Check.sentence(8, "how many it ignored still");
        ConditionDesk desk = Check.desk("1");
        Check.due("ignore(0, 3)", desk.ignore(0, 3), 0);
        desk.ask(0);
        Check.due("ignore(0, 1000)", desk.ignore(0, 1000), 2);
        Check.due("ignores", desk.about(0, 2), 1000);
        Check.due("ignore(0, 1)", desk.ignore(0, 1), 1000);
        Check.due("ask(0)", desk.ask(0), 0);
        Check.due("ignore(0, 0)", desk.ignore(0, 0), 0);
    }

    private static void onlyThoseThatHoldArePassedOver() {
        Check.sentence(8, "then it counts one less");
        ConditionDesk desk = Check.desk("x1/x2");
        desk.ignore(0, 1);
        Check.due("one that fails", desk.ask(0), -1);
        Check.due("ignores", desk.about(0, 2), 1);
        desk.set(2, 1);
        Check.due("one that does not hold", desk.ask(0), 0);
        Check.due("ignores", desk.about(0, 2), 1);
        desk.set(1, -1);
        Check.due("one that holds", desk.ask(0), 0);
        Check.due("ignores", desk.about(0, 2), 0);
        Check.due("its value all the same", desk.about(0, 0), -1);
        Check.due("hits", desk.about(0, 1), 0);
    }

    private static void manyThatAreIgnored() {
        Check.sentence(8, "ignores the next n hits");
        ConditionDesk desk = Check.desk("1");
        desk.ignore(0, 400);
        for (int i = 0; i < 400; i++) {
            Check.due("ask number " + i, desk.ask(0), 0);
        }
        Check.due("the next", desk.ask(0), 1);
        Check.due("hits", desk.about(0, 1), 1);
    }

    private static void wrongArguments() {
        Check.sentence(8, "IllegalArgumentException when k is not 0 .. 7 or n not 0 .. 1000");
        ConditionDesk desk = Check.compiled(Check.desk("1"), 7, "1");
        desk.ignore(0, 5);
        String before = Check.state(desk);
        for (int k : new int[] {-1, 8, 15, 256, Integer.MIN_VALUE, Integer.MAX_VALUE}) {
            Check.illegalArgument("ignore(" + k + ", 0)", () -> desk.ignore(k, 0));
        }
        for (int n : new int[] {-1, 1001, 1024, 65536, Integer.MIN_VALUE, Integer.MAX_VALUE}) {
            Check.illegalArgument("ignore(0, " + n + ")", () -> desk.ignore(0, n));
            Check.illegalArgument("ignore(8, " + n + ")", () -> desk.ignore(8, n));
        }
        Check.same("the state behind refused calls", Check.state(desk), before);
    }

    private static void notThere() {
        Check.sentence(8, "else IllegalStateException when it isn't there");
        ConditionDesk desk = Check.desk("1");
        String before = Check.state(desk);
        for (int k = 1; k < 8; k++) {
            int which = k;
            Check.illegalState("ignore(" + k + ", 0)", () -> desk.ignore(which, 0));
            Check.illegalState("ignore(" + k + ", 1000)", () -> desk.ignore(which, 1000));
        }
        Check.same("the state behind refused calls", Check.state(desk), before);
        Check.compiled(desk, 1, "1");
        Check.due("what a refused call did not leave", desk.about(1, 2), 0);
        desk.drop(0);
        Check.illegalState("ignore of one that went", () -> desk.ignore(0, 1));
    }

    private static void theArgumentComesFirst() {
        Check.sentence(8, "IllegalArgumentException when .. n not 0 .. 1000; else IllegalStateException");
        ConditionDesk desk = new ConditionDesk();
        Check.illegalArgument("ignore(0, -1)", () -> desk.ignore(0, -1));
        Check.illegalArgument("ignore(7, 1001)", () -> desk.ignore(7, 1001));
        Check.illegalArgument("ignore(8, 0)", () -> desk.ignore(8, 0));
    }
}
