/** The boundary cases of promise 6. */
public final class Promise06BoundaryTest {
    public static void main(String[] args) {
        anyLong();
        goesRound();
        nothingElseBecomesThis();
        Check.end();
    }

    private static void anyLong() {
        Check.sentence(6, "The count becomes this");
        ConditionDesk desk = Check.desk("count");
        for (long count : new long[] {Long.MAX_VALUE, Long.MIN_VALUE, -1, 0, 1, 1L << 32, -1L << 32, 1L << 31,
            (1L << 32) - 1, (1L << 53) + 1}) {
            desk.go(count);
            Check.asked(desk, "count behind go(" + count + ")", count == 0 ? 0 : 1, count, 1);
        }
    }

    /** Values are longs, and all arithmetic goes round, as the terms say. */
    private static void goesRound() {
        Check.sentence(6, "The count becomes this");
        ConditionDesk desk = Check.desk("count+1");
        desk.go(Long.MAX_VALUE);
        Check.asked(desk, "count+1 at the greatest", 1, Long.MIN_VALUE, 3);
        desk.go(-1);
        Check.asked(desk, "count+1 at -1", 0, 0, 3);
    }

    private static void nothingElseBecomesThis() {
        Check.sentence(6, "The count becomes this");
        ConditionDesk desk = Check.desk("x1|x31|pc|pid|[0]|[252]");
        desk.go(-1);
        Check.due("all others", desk.ask(0), 0);
        Check.due("count(2), which is another count", desk.count(2), 13);
    }
}
