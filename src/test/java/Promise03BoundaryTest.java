/** The boundary cases of promise 3 itself; those of the texts and their faults are in Promise03TextBoundaryTest. */
public final class Promise03BoundaryTest {
    public static void main(String[] args) {
        theFirstAndTheLastCondition();
        inPlaceOfOneThatWasThere();
        andEmpty();
        nothingButTheTextGoes();
        nothingComesWithAFault();
        nothingOfAFaultStays();
        noSuchCondition();
        Check.end();
    }

    private static void theFirstAndTheLastCondition() {
        Check.sentence(3, "CONDITIONS 0 .. 7 may be there");
        ConditionDesk desk = new ConditionDesk();
        for (int k = 0; k < 8; k++) {
            Check.compiled(desk, k, "x1+" + k);
        }
        Check.due("count(1)", desk.count(1), 8);
        desk.set(1, 10);
        for (int k = 0; k < 8; k++) {
            desk.ask(k);
            Check.due("value of " + k, desk.about(k, 0), 10 + k);
        }
    }

    private static void inPlaceOfOneThatWasThere() {
        Check.sentence(3, "in place of one that was there (not hit, ignoring nothing)");
        ConditionDesk desk = Check.compiled(Check.desk("1/x1"), 7, "1");
        desk.ask(0);
        desk.set(1, 1);
        desk.ask(0);
        desk.ignore(0, 1000);
        desk.askAll();
        Check.compiled(desk, 0, "-1");
        long[] want = {0, 0, 0, 0, 2, 0};
        for (int what = 0; what < 6; what++) {
            Check.due("about(0, " + what + ")", desk.about(0, what), want[what]);
        }
        Check.due("count(1)", desk.count(1), 2);
        Check.due("all steps stay", desk.count(2), 10);
        Check.due("hits of the other stay", desk.about(7, 1), 1);
        Check.due("ask of the new one", desk.ask(0), 1);
    }

    private static void andEmpty() {
        Check.sentence(3, "and empty: 0");
        ConditionDesk desk = Check.desk("1");
        Check.due("count(0)", desk.count(0), 0);
        Check.due("compile of the empty text", desk.compile(1), 1);
        Check.due("compile of the empty text at the one that is there", desk.compile(0), 1);
        Check.due("count(1)", desk.count(1), 1);
        Check.due("ask(0)", desk.ask(0), 1);
    }

    private static void nothingButTheTextGoes() {
        Check.sentence(3, "nothing but the text goes");
        ConditionDesk desk = Check.desk("changed(x1)");
        desk.ask(0);
        desk.set(1, 1);
        desk.ask(0);
        desk.ignore(0, 3);
        String before = Check.state(desk);
        // One of each kind of fault.
        String[] texts = {"1+", "1)", "y", "!".repeat(41), "(((((((((", "4294967296"};
        int[] answers = {17, 9, 2, 3 + 8 * 40, 4 + 8 * 8, 1};
        for (int i = 0; i < texts.length; i++) {
            Check.due("compile of '" + texts[i] + "'", Check.typed(desk, texts[i]).compile(0), answers[i]);
            Check.same("the state behind '" + texts[i] + "'", Check.state(desk), before);
        }
        Check.asked(desk, "the one that stays, and remembers", 0, 0, 2);
        desk.set(1, 0);
        Check.asked(desk, "the one that stays, passed over", 0, 1, 2);
        Check.due("ignores", desk.about(0, 2), 2);
    }

    private static void nothingComesWithAFault() {
        Check.sentence(3, "or the fault + 8 * its place: nothing but the text goes");
        ConditionDesk desk = new ConditionDesk();
        for (int k = 0; k < 8; k++) {
            int which = k;
            Check.due("compile(" + k + ")", Check.typed(desk, " )").compile(k), 9);
            Check.due("count(0)", desk.count(0), 0);
            Check.illegalState("ask(" + k + ")", () -> desk.ask(which));
        }
        Check.due("count(1)", desk.count(1), 0);
    }

    /** A text behind faulty ones has its 40 parts, its eight brackets and its signs for itself. */
    private static void nothingOfAFaultStays() {
        Check.sentence(3, "or the fault + 8 * its place: nothing but the text goes");
        ConditionDesk desk = new ConditionDesk();
        String[] faulty = {"((((((((1", "[[[[[[[[-", "1||2&&3==4|5^6&7<<8+9*(1", "!".repeat(40), "old", "byte"};
        for (int turn = 0; turn < 4; turn++) {
            for (String text : faulty) {
                Check.due("compile of '" + text + "'", Check.typed(desk, text).compile(0), 1 + 8 * text.length());
            }
        }
        Check.compiled(desk, 0, "!".repeat(31) + "((((((((1))))))))");
        Check.asked(desk, "one with all that may be", 0, 0, 32);
        Check.compiled(desk, 0, "5-2-1");
        Check.asked(desk, "a plain one", 1, 2, 5);
    }

    private static void noSuchCondition() {
        Check.sentence(3, "IllegalArgumentException when k is not 0 .. 7");
        ConditionDesk desk = Check.typed(Check.desk("1"), "2");
        String before = Check.state(desk);
        for (int k : new int[] {-1, 8, 16, -8, 256, Integer.MIN_VALUE, Integer.MAX_VALUE}) {
            Check.illegalArgument("compile(" + k + ")", () -> desk.compile(k));
        }
        Check.same("the state behind refused calls", Check.state(desk), before);
        Check.due("compile of the text that stayed", desk.compile(7), 0);
        Check.due("ask(7)", desk.ask(7), 1);
        Check.due("its value", desk.about(7, 0), 2);
        Check.illegalArgument("compile(8) of the empty text", () -> desk.compile(8));
        Check.illegalArgument("compile(8) of a fault", () -> Check.typed(desk, ")").compile(8));
        Check.due("count(0)", desk.count(0), 1);
    }
}
