/** The boundary cases of promise 9 that the terms tell of old and changed. */
public final class Promise09OldBoundaryTest {
    public static void main(String[] args) {
        theTimeBefore();
        sinceItWasCompiled();
        ofThisCondition();
        whetherItWasWorkedThenOrNot();
        notWorkedNow();
        notAskedBefore();
        failsWhereEDoes();
        whereEFailedThere();
        changedWorksE();
        anotherValue();
        changedWhereItFailed();
        rememberedIsNotCounted();
        withinOneAnother();
        theMostThatAreRemembered();
        Check.end();
    }

    private static void theTimeBefore() {
        Check.sentence(9,
            "the value that e had with the machine as it was when this condition was asked the time before");
        ConditionDesk desk = Check.desk("old(x1+x31+pc+pid+count+[252])");
        desk.ask(0);
        desk.set(1, 1);
        desk.set(31, 10);
        desk.set(32, 100);
        desk.set(33, 1000);
        desk.go(10000);
        desk.poke(254, 1);
        Check.asked(desk, "all 0, the time before", 0, 0, 1);
        Check.asked(desk, "all set, the time before", 1, 11111 + 65536, 1);
        desk.set(1, 2);
        desk.set(1, 3);
        Check.asked(desk, "what was in between counts not", 1, 11111 + 65536, 1);
        Check.asked(desk, "the latest", 1, 11113 + 65536, 1);
        Check.compiled(desk, 0, "old(count)");
        desk.go(Long.MIN_VALUE);
        desk.ask(0);
        desk.go(Long.MAX_VALUE);
        Check.asked(desk, "the least value", 1, Long.MIN_VALUE, 1);
        Check.asked(desk, "the greatest value", 1, Long.MAX_VALUE, 1);
    }

    private static void sinceItWasCompiled() {
        Check.sentence(9, "(since it was compiled)");
        ConditionDesk desk = Check.desk("old(x1)");
        desk.set(1, 4);
        desk.ask(0);
        Check.compiled(desk, 0, "old(x1)");
        desk.set(1, 5);
        Check.asked(desk, "compiled again", 1, 5, 2);
        desk.drop(0);
        Check.compiled(desk, 0, "old(x1)");
        desk.set(1, 6);
        Check.asked(desk, "dropped and compiled again", 1, 6, 2);
        Check.due("compile of a fault", Check.typed(desk, "old(").compile(0), 33);
        desk.set(1, 7);
        Check.asked(desk, "behind a fault, it is the same one", 1, 6, 1);
    }

    private static void ofThisCondition() {
        Check.sentence(9, "when this condition was asked");
        ConditionDesk desk = Check.compiled(Check.desk("old(x1)"), 7, "old(x1)");
        desk.set(1, 4);
        desk.ask(0);
        desk.set(1, 5);
        Check.due("the other", desk.ask(7), 1);
        Check.due("its value, not asked before", desk.about(7, 0), 5);
        desk.set(1, 6);
        Check.asked(desk, "this one", 1, 4, 1);
    }

    private static void whetherItWasWorkedThenOrNot() {
        Check.sentence(9, "whether it was worked then or not");
        ConditionDesk desk = Check.desk("x1&&old(x2)");
        desk.set(2, 5);
        Check.asked(desk, "&&, not worked", 0, 0, 2);
        desk.set(1, 1);
        desk.set(2, 0);
        Check.asked(desk, "&&, worked", 1, 1, 3);
        Check.compiled(desk, 0, "x1||old(x2)");
        desk.set(2, 5);
        Check.asked(desk, "||, not worked", 1, 1, 2);
        desk.set(1, 0);
        desk.set(2, 0);
        Check.asked(desk, "||, worked", 1, 1, 3);
        Check.compiled(desk, 0, "1/x1*0+old(x2)");
        desk.set(2, 5);
        Check.asked(desk, "behind a failure, not worked", -1, 0, 5);
        desk.set(1, 1);
        desk.set(2, 6);
        Check.asked(desk, "behind a good one, worked", 1, 5, 7);
        Check.compiled(desk, 0, "x1&&changed(x2)");
        desk.set(1, 0);
        Check.asked(desk, "changed, not worked", 0, 0, 2);
        desk.set(1, 1);
        desk.set(2, 7);
        Check.asked(desk, "changed, worked", 1, 1, 4);
    }

    private static void notWorkedNow() {
        Check.sentence(9, "e is not worked now");
        ConditionDesk desk = Check.desk("old(12/x1)");
        desk.set(1, 4);
        Check.asked(desk, "first", 1, 3, 4);
        desk.set(1, 0);
        Check.asked(desk, "second, and e would fail now", 1, 3, 1);
        Check.due("failures", desk.about(0, 5), 0);
    }

    private static void notAskedBefore() {
        Check.sentence(9, "but when it was not asked before: then it is the value now");
        ConditionDesk desk = new ConditionDesk();
        desk.set(1, 9);
        Check.compiled(desk, 0, "old(x1)*10+x1");
        desk.set(1, 4);
        Check.asked(desk, "the first time", 1, 44, 6);
        desk.set(1, 5);
        Check.asked(desk, "the second time", 1, 45, 5);
    }

    private static void failsWhereEDoes() {
        Check.sentence(9, "(and fails where e does)");
        ConditionDesk desk = Check.desk("old(1/x1)");
        Check.asked(desk, "a division by 0", -1, 0, 4);
        Check.compiled(desk, 0, "5+old([x2+1])");
        Check.asked(desk, "an address", -2, 0, 7);
        Check.due("failures", desk.about(0, 5), 1);
        Check.compiled(desk, 0, "0&&old(1/x1)");
        Check.asked(desk, "not worked, it fails not", 0, 0, 2);
    }

    private static void whereEFailedThere() {
        Check.sentence(9, "Where e failed there, it is 0");
        ConditionDesk desk = Check.desk("old(7+6/x1)");
        Check.asked(desk, "failing, first", -1, 0, 6);
        desk.set(1, 2);
        Check.asked(desk, "0, second", 0, 0, 1);
        desk.set(1, 0);
        Check.asked(desk, "good, third", 1, 10, 1);
        Check.asked(desk, "0 again, and not the one of before, fourth", 0, 0, 1);
        Check.due("failures", desk.about(0, 5), 1);
        Check.compiled(desk, 0, "old(7+byte[x2])");
        desk.set(2, 256);
        Check.asked(desk, "failing, first", -2, 0, 5);
        Check.asked(desk, "0, second", 0, 0, 1);
        Check.compiled(desk, 0, "old(1/x1)||old(x2)");
        Check.asked(desk, "one fails, first", -1, 0, 5);
        Check.asked(desk, "the other failed not", 1, 1, 3);
    }

    private static void changedWorksE() {
        Check.sentence(9, "changed ( e ) works e");
        ConditionDesk desk = Check.desk("changed(6/x1)");
        desk.set(1, 2);
        Check.asked(desk, "not asked before", 0, 0, 4);
        Check.asked(desk, "asked before", 0, 0, 4);
        desk.set(1, 0);
        Check.asked(desk, "failing now", -1, 0, 4);
        Check.compiled(desk, 0, "changed([x2])");
        desk.set(2, 2);
        Check.asked(desk, "failing the first time", -2, 0, 3);
    }

    private static void anotherValue() {
        Check.sentence(9, "and is whether that is another value than old ( e )");
        ConditionDesk desk = Check.desk("changed(count)*2");
        desk.go(5);
        Check.asked(desk, "not asked before", 0, 0, 4);
        Check.asked(desk, "the same", 0, 0, 4);
        desk.go(6);
        Check.asked(desk, "another", 1, 2, 4);
        Check.asked(desk, "the same again", 0, 0, 4);
        desk.go(6 + (1L << 32));
        Check.asked(desk, "another in the upper half", 1, 2, 4);
        desk.go(Long.MIN_VALUE);
        Check.asked(desk, "the least", 1, 2, 4);
        desk.go(0);
        Check.asked(desk, "the least and 0 differ by the sign alone", 1, 2, 4);
        desk.go(9);
        desk.go(0);
        Check.asked(desk, "there and back", 0, 0, 4);
    }

    private static void changedWhereItFailed() {
        Check.sentence(9, "Where e failed there, it is 0. changed ( e ) .. is whether that is another value");
        ConditionDesk desk = Check.desk("changed(6%x1)");
        Check.asked(desk, "failing", -1, 0, 4);
        desk.set(1, 3);
        Check.asked(desk, "0, as where it failed", 0, 0, 4);
        desk.set(1, 0);
        Check.asked(desk, "failing", -1, 0, 4);
        desk.set(1, 4);
        Check.asked(desk, "2, and not 0", 1, 1, 4);
    }

    private static void rememberedIsNotCounted() {
        Check.sentence(9, "(what is remembered for old and changed is not counted)");
        ConditionDesk desk = Check.desk("0&&(old(1+2+3)||changed(4*5))");
        Check.asked(desk, "nothing of them worked", 0, 0, 2);
        Check.asked(desk, "nothing of them worked", 0, 0, 2);
        Check.due("all steps", desk.count(2), 4);
        Check.compiled(desk, 0, "0&&old(1/0)");
        Check.asked(desk, "a failure of what is remembered", 0, 0, 2);
        Check.due("failures", desk.about(0, 5), 0);
        Check.due("all steps", desk.count(2), 6);
        Check.due("askAll()", desk.askAll(), 0);
        Check.due("all steps", desk.count(2), 8);
    }

    /** Of the words "the value that e had .. when this condition was asked the time before": e had its own old then. */
    private static void withinOneAnother() {
        Check.sentence(9, "old ( e ) is the value that e had");
        ConditionDesk desk = Check.desk("old(old(x1))");
        long[] given = {1, 2, 3, 4};
        long[] want = {1, 1, 1, 2};
        for (int i = 0; i < given.length; i++) {
            desk.set(1, (int) given[i]);
            Check.asked(desk, "old of old, asking " + i, 1, want[i], i == 0 ? 3 : 1);
        }
        Check.compiled(desk, 0, "old(changed(x1))");
        int[] values = {1, 1, 2, 2, 2};
        int[] answers = {0, 0, 0, 1, 0};
        for (int i = 0; i < values.length; i++) {
            desk.set(1, values[i]);
            Check.due("old of changed, asking " + i, desk.ask(0), answers[i]);
        }
    }

    private static void theMostThatAreRemembered() {
        Check.sentence(9, "old ( e ) is the value that e had");
        // 10 of them and 9 signs between: 39 parts.
        ConditionDesk desk = Check.desk("old(1)" + "+old(x1)".repeat(9));
        desk.set(1, 2);
        Check.asked(desk, "first", 1, 19, 29);
        desk.set(1, 3);
        Check.asked(desk, "second", 1, 19, 19);
        Check.asked(desk, "third", 1, 28, 19);
        Check.compiled(desk, 0, "old(" + "-".repeat(37) + "x1)");
        Check.asked(desk, "first, the longest e", 1, -3, 39);
        desk.set(1, 4);
        Check.asked(desk, "second, the longest e", 1, -3, 1);
        Check.asked(desk, "third, the longest e", 1, -4, 1);
        Check.compiled(desk, 0, "old(old(old(old(old(old(old(old(x1))))))))");
        for (int i = 1; i <= 12; i++) {
            desk.set(1, i);
            Check.asked(desk, "eight in one another", 1, Math.max(1, i - 8), i == 1 ? 9 : 1);
        }
    }
}
