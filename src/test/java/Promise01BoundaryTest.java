/** The boundary cases of promise 1, and those of the machine that a new object has. */
public final class Promise01BoundaryTest {
    public static void main(String[] args) {
        noText();
        noConditions();
        allAreZeroAtFirst();
        atMost512Calls();
        Check.end();
    }

    private static void noText() {
        Check.sentence(1, "No text");
        ConditionDesk desk = new ConditionDesk();
        Check.due("count(0)", desk.count(0), 0);
        Check.due("compile of the text that is not there", desk.compile(0), 1);
    }

    private static void noConditions() {
        Check.sentence(1, "no conditions");
        ConditionDesk desk = new ConditionDesk();
        Check.due("count(1)", desk.count(1), 0);
        Check.due("count(2)", desk.count(2), 0);
        Check.due("askAll()", desk.askAll(), 0);
        for (int k = 0; k < 8; k++) {
            int which = k;
            Check.illegalState("ask(" + k + ")", () -> desk.ask(which));
            Check.illegalState("about(" + k + ", 4)", () -> desk.about(which, 4));
            Check.illegalState("ignore(" + k + ", 1)", () -> desk.ignore(which, 1));
            Check.due("drop(" + k + ")", desk.drop(k), false);
        }
        Check.due("count(2) behind all these", desk.count(2), 0);
    }

    /** Told in the terms; the first and the last of each are asked. */
    private static void allAreZeroAtFirst() {
        Check.sentence(1, "all are 0 at first");
        for (String text : new String[] {"x0", "x1", "x31", "pc", "pid", "count", "[0]", "[252]", "half[0]",
            "half[254]", "byte[0]", "byte[255]"}) {
            Check.value(text, 0);
        }
    }

    /** Told in front of the promises: the 512th call is still as good as the first. */
    private static void atMost512Calls() {
        Check.sentence(1, "An object is used for at most 512 calls");
        ConditionDesk desk = new ConditionDesk();
        desk.type('~');
        desk.type('0');
        desk.compile(7);
        for (int call = 4; call < 511; call++) {
            Check.due("ask(7), call " + call, desk.ask(7), 1);
        }
        Check.due("hits, call 511", desk.about(7, 1), 507);
        Check.due("all steps, call 512", desk.count(2), 2 * 507);
    }
}
