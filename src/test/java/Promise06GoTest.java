/** Promise 6: go changes the count. */
public final class Promise06GoTest {
    public static void main(String[] args) {
        ConditionDesk desk = Check.desk("count");
        for (long count : new long[] {1, 0, -1, 1L << 40, Long.MIN_VALUE, Long.MAX_VALUE}) {
            desk.go(count);
            Check.asked(desk, "count", count == 0 ? 0 : 1, count, 1);
        }
        Check.compiled(desk, 0, "count+1");
        Check.asked(desk, "a count that goes round", 1, Long.MIN_VALUE, 3);
        Check.compiled(desk, 0, "pc|pid|x31|[0]");
        Check.asked(desk, "all others", 0, 0, 8);
        Check.end();
    }
}
