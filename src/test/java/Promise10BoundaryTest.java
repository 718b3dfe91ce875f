/** The boundary cases of promise 10. */
public final class Promise10BoundaryTest {
    public static void main(String[] args) {
        noneIsThere();
        allAreThere();
        theFirstAndTheLastBit();
        ofThoseThatAreHit();
        theyAreReallyAsked();
        Check.end();
    }

    private static void noneIsThere() {
        Check.sentence(10, "Asks all that are there");
        ConditionDesk desk = new ConditionDesk();
        Check.due("askAll() of a new object", desk.askAll(), 0);
        Check.compiled(desk, 0, "1");
        desk.drop(0);
        Check.due("askAll() when the only one went", desk.askAll(), 0);
        Check.due("steps", desk.count(2), 0);
    }

    private static void allAreThere() {
        Check.sentence(10, "Asks all that are there");
        ConditionDesk desk = new ConditionDesk();
        for (int k = 0; k < 8; k++) {
            Check.compiled(desk, k, "1");
            Check.due("askAll() with " + (k + 1), desk.askAll(), (2 << k) - 1);
        }
        for (int k = 0; k < 8; k++) {
            Check.due("hits of " + k, desk.about(k, 1), 8 - k);
        }
        Check.due("steps", desk.count(2), 36);
    }

    private static void theFirstAndTheLastBit() {
        Check.sentence(10, "the bits (1 << k)");
        for (int k = 0; k < 8; k++) {
            ConditionDesk desk = Check.compiled(new ConditionDesk(), k, "1");
            Check.due("askAll() with " + k + " alone", desk.askAll(), 1 << k);
        }
    }

    private static void ofThoseThatAreHit() {
        Check.sentence(10, "of those that are hit");
        ConditionDesk desk = Check.desk("0");
        Check.compiled(desk, 1, "1/0");
        Check.compiled(desk, 2, "[1]");
        Check.compiled(desk, 3, "1");
        Check.compiled(desk, 4, "-1");
        Check.compiled(desk, 5, "1<<63");
        Check.compiled(desk, 7, "1<<32");
        desk.ignore(3, 1);
        Check.due("askAll()", desk.askAll(), 16 + 32 + 128);
        Check.due("askAll() again", desk.askAll(), 8 + 16 + 32 + 128);
        long[] hits = {0, 0, 0, 1, 2, 2, -1, 2};
        long[] failures = {0, 2, 2, 0, 0, 0, -1, 0};
        for (int k = 0; k < 8; k++) {
            if (k != 6) {
                Check.due("hits of " + k, desk.about(k, 1), hits[k]);
                Check.due("failures of " + k, desk.about(k, 5), failures[k]);
            }
        }
    }

    /** What is asked by askAll was asked before, for old and changed. */
    private static void theyAreReallyAsked() {
        Check.sentence(10, "Asks all that are there");
        ConditionDesk desk = Check.desk("old(x1)");
        Check.compiled(desk, 7, "changed(x1)");
        Check.due("askAll()", desk.askAll(), 0);
        desk.set(1, 1);
        Check.due("askAll()", desk.askAll(), 128);
        Check.due("askAll()", desk.askAll(), 1);
        Check.due("steps of 0", desk.about(0, 3), 1);
        Check.due("steps of 7", desk.about(7, 3), 2);
        Check.due("all steps", desk.count(2), 2 + 2 + 1 + 2 + 1 + 2);
    }
}
