/** Promise 5: set changes a register, the place or the process. */
public final class Promise05SetTest {
    public static void main(String[] args) {
        ConditionDesk desk = new ConditionDesk();
        for (int r : new int[] {-1, 34, 35, Integer.MIN_VALUE, Integer.MAX_VALUE}) {
            Check.illegalArgument("set(" + r + ", 1)", () -> {
                desk.set(r, 1);
                return 0;
            });
        }
        for (int r = 0; r < 34; r++) {
            desk.set(r, 1000 + r);
        }
        for (int r = 0; r < 34; r++) {
            Check.compiled(desk, 0, r < 32 ? "x" + r : r == 32 ? "pc" : "pid");
            Check.asked(desk, "register " + r, r == 0 ? 0 : 1, r == 0 ? 0 : 1000 + r, 1);
        }
        Check.compiled(desk, 0, "x5");
        for (int v : new int[] {-1, 0, Integer.MIN_VALUE, Integer.MAX_VALUE}) {
            desk.set(5, v);
            Check.asked(desk, "x5", v == 0 ? 0 : 1, v, 1);
        }
        Check.compiled(desk, 0, "count");
        Check.asked(desk, "count, which no register is", 0, 0, 1);
        Check.end();
    }
}
