/** The boundary cases of promise 7. */
public final class Promise07BoundaryTest {
    public static void main(String[] args) {
        theFirstAndTheLastByte();
        theLowestEightBits();
        noSuchByte();
        Check.end();
    }

    private static void theFirstAndTheLastByte() {
        Check.sentence(7, "A byte of the cells becomes");
        for (int address : new int[] {0, 1, 127, 128, 254, 255}) {
            ConditionDesk desk = new ConditionDesk();
            desk.poke(address, 200);
            Check.compiled(desk, 0, "byte[x1]");
            for (int near = Math.max(0, address - 2); near <= Math.min(255, address + 2); near++) {
                desk.set(1, near);
                int want = near == address ? 200 : 0;
                Check.asked(desk, "byte " + near + " behind poke(" + address + ", 200)", want == 0 ? 0 : 1, want, 2);
            }
        }
    }

    private static void theLowestEightBits() {
        Check.sentence(7, "the lowest eight bits of v");
        ConditionDesk desk = Check.desk("byte[5]");
        Check.compiled(desk, 1, "byte[4]|byte[6]|[0]|[8]");
        int[] given = {127, 128, 255, 256, 257, -1, -128, -256, 0xffff00, Integer.MAX_VALUE, Integer.MIN_VALUE};
        int[] kept = {127, 128, 255, 0, 1, 255, 128, 0, 0, 255, 0};
        for (int i = 0; i < given.length; i++) {
            desk.poke(5, given[i]);
            Check.asked(desk, "byte[5] behind poke of " + given[i], kept[i] == 0 ? 0 : 1, kept[i], 2);
            Check.due("the bytes round it", desk.ask(1), 0);
        }
    }

    private static void noSuchByte() {
        Check.sentence(7, "IllegalArgumentException when address is not 0 .. 255");
        ConditionDesk desk = Check.desk("[0]|[252]|x1|x31|pc|pid|count");
        for (int address : new int[] {-1, 256, 257, 511, 512, -256, Integer.MIN_VALUE, Integer.MAX_VALUE}) {
            Check.illegalArgument("poke(" + address + ", 255)", () -> {
                desk.poke(address, 255);
                return 0;
            });
        }
        Check.due("ask(0) behind refused calls", desk.ask(0), 0);
    }
}
