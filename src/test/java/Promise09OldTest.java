/** Promise 9: what old and changed remember from the time before. */
public final class Promise09OldTest {
    public static void main(String[] args) {
        oldIsTheTimeBefore();
        changedIsAnotherValue();
        whetherWorkedOrNot();
        failuresThere();
        failuresNow();
        withinOneAnother();
        ofThisConditionOnly();
        stepsAreNotRemembering();
        Check.end();
    }

    private static void oldIsTheTimeBefore() {
        ConditionDesk desk = Check.desk("old(x1)");
        desk.set(1, 4);
        Check.asked(desk, "old, first", 1, 4, 2);
        desk.set(1, 5);
        desk.set(1, 6);
        Check.asked(desk, "old, second", 1, 4, 1);
        Check.asked(desk, "old, third", 1, 6, 1);
        desk.set(1, 0);
        Check.asked(desk, "old, fourth", 1, 6, 1);
        Check.asked(desk, "old, fifth", 0, 0, 1);
    }

    private static void changedIsAnotherValue() {
        ConditionDesk desk = Check.desk("changed(count+[0])");
        desk.go(7);
        Check.asked(desk, "changed, first", 0, 0, 5);
        Check.asked(desk, "changed, same", 0, 0, 5);
        desk.go(8);
        Check.asked(desk, "changed, another", 1, 1, 5);
        Check.asked(desk, "changed, same again", 0, 0, 5);
        desk.go(9);
        desk.go(8);
        Check.asked(desk, "changed, there and back", 0, 0, 5);
        desk.poke(0, 1);
        desk.go(7);
        Check.asked(desk, "changed, other parts of the same value", 0, 0, 5);
        desk.go(7 + (1L << 32));
        Check.asked(desk, "changed, in the high half only", 1, 1, 5);
    }

    private static void whetherWorkedOrNot() {
        ConditionDesk desk = Check.desk("x1&&old(x2)");
        desk.set(2, 5);
        Check.asked(desk, "old that is not worked", 0, 0, 2);
        desk.set(1, 1);
        desk.set(2, 0);
        Check.asked(desk, "old from then", 1, 1, 3);
        Check.asked(desk, "old from then", 0, 0, 3);
        Check.compiled(desk, 0, "x3||changed(x2)");
        desk.set(3, 1);
        Check.asked(desk, "changed that is not worked", 1, 1, 2);
        desk.set(2, 9);
        desk.set(3, 0);
        Check.asked(desk, "changed since then", 1, 1, 4);
        Check.compiled(desk, 0, "1/x4+old(x2)");
        Check.asked(desk, "old behind a failure", -1, 0, 4);
        desk.set(4, 2);
        desk.set(2, 10);
        Check.asked(desk, "old from a failed asking", 1, 9, 5);
    }

    private static void failuresThere() {
        ConditionDesk desk = Check.desk("x1&&old(6/x2)");
        Check.asked(desk, "old where e fails", 0, 0, 2);
        desk.set(1, 1);
        desk.set(2, 2);
        Check.asked(desk, "old where e failed", 0, 0, 3);
        Check.asked(desk, "old where e is good", 1, 1, 3);
        desk.set(2, 0);
        Check.asked(desk, "old is not worked now", 1, 1, 3);
        Check.asked(desk, "old where e failed", 0, 0, 3);
        Check.compiled(desk, 0, "x1&&changed([x2])");
        desk.set(1, 0);
        desk.set(2, 3);
        Check.asked(desk, "changed where e fails", 0, 0, 2);
        desk.set(1, 1);
        desk.set(2, 4);
        Check.asked(desk, "changed from 0 to 0", 0, 0, 5);
        desk.set(2, 3);
        Check.asked(desk, "changed fails", -2, 0, 5);
        desk.set(2, 4);
        desk.poke(4, 7);
        Check.asked(desk, "changed from 0 to 7", 1, 1, 5);
        Check.compiled(desk, 0, "old(x1/x2+byte[x3])");
        desk.set(2, 0);
        Check.asked(desk, "old fails the first time", -1, 0, 5);
        Check.asked(desk, "old is 0 where e failed", 0, 0, 1);
        desk.set(2, 1);
        desk.set(3, 256);
        Check.asked(desk, "old is 0 where e failed", 0, 0, 1);
        desk.set(3, 4);
        Check.asked(desk, "old is 0 where e failed", 0, 0, 1);
        Check.asked(desk, "old is good", 1, 8, 1);
        Check.due("failures", desk.about(0, 5), 1);
    }

    private static void failuresNow() {
        ConditionDesk desk = Check.desk("changed(6%x1)");
        desk.set(1, 4);
        Check.asked(desk, "changed, first", 0, 0, 4);
        desk.set(1, 0);
        Check.asked(desk, "changed fails", -1, 0, 4);
        desk.set(1, 6);
        Check.asked(desk, "changed from 0 to 0", 0, 0, 4);
        desk.set(1, 5);
        Check.asked(desk, "changed from 0 to 1", 1, 1, 4);
    }

    private static void withinOneAnother() {
        ConditionDesk desk = Check.desk("old(old(x1))*1000+old(x1)*100+x1");
        int[] given = {1, 2, 3, 4, 5};
        long[] want = {1101, 1102, 1203, 2304, 3405};
        for (int i = 0; i < given.length; i++) {
            desk.set(1, given[i]);
            Check.due("ask", desk.ask(0), 1);
            Check.due("old of old", desk.about(0, 0), want[i]);
        }
        Check.compiled(desk, 0, "old(changed(x1))");
        int[] values = {1, 2, 2, 3, 3};
        int[] answers = {0, 0, 1, 0, 1};
        for (int i = 0; i < values.length; i++) {
            desk.set(1, values[i]);
            Check.due("old of changed", desk.ask(0), answers[i]);
        }
        Check.compiled(desk, 0, "changed(old(x1))");
        int[] late = {0, 0, 1, 0, 1};
        for (int i = 0; i < values.length; i++) {
            desk.set(1, values[i]);
            Check.due("changed of old", desk.ask(0), late[i]);
        }
        Check.compiled(desk, 0, "old(x1-old(x1))");
        long[] differences = {0, 0, 2, 4, 8};
        int[] doubled = {1, 3, 7, 15, 31};
        for (int i = 0; i < doubled.length; i++) {
            desk.set(1, doubled[i]);
            desk.ask(0);
            Check.due("old of a difference", desk.about(0, 0), differences[i]);
        }
    }

    private static void ofThisConditionOnly() {
        ConditionDesk desk = Check.desk("changed(x1)");
        Check.compiled(desk, 1, "changed(x1)");
        desk.ask(0);
        desk.set(1, 1);
        Check.due("the one asked before", desk.ask(0), 1);
        Check.due("the one not asked before", desk.ask(1), 0);
        desk.set(1, 2);
        Check.due("askAll()", desk.askAll(), 3);
        Check.due("askAll()", desk.askAll(), 0);
        desk.set(1, 3);
        Check.due("ask(1)", desk.ask(1), 1);
        Check.due("askAll()", desk.askAll(), 1);
    }

    private static void stepsAreNotRemembering() {
        ConditionDesk desk = Check.desk("1||old(x1+x2+x3)&&changed(x4*x5)");
        Check.asked(desk, "first", 1, 1, 2);
        Check.asked(desk, "second", 1, 1, 2);
        Check.due("all steps", desk.count(2), 4);
        Check.compiled(desk, 0, "old(x1+changed(x2))");
        Check.asked(desk, "first", 0, 0, 5);
        Check.asked(desk, "second", 0, 0, 1);
        Check.compiled(desk, 0, "changed(x1+old(x2))");
        Check.asked(desk, "first", 0, 0, 5);
        Check.asked(desk, "second", 0, 0, 4);
        Check.due("all steps", desk.count(2), 19);
    }
}
