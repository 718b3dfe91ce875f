/** Promise 7: poke changes one byte of the cells. */
public final class Promise07PokeTest {
    public static void main(String[] args) {
        ConditionDesk desk = new ConditionDesk();
        for (int address : new int[] {-1, 256, Integer.MIN_VALUE, Integer.MAX_VALUE}) {
            Check.illegalArgument("poke(" + address + ", 1)", () -> {
                desk.poke(address, 1);
                return 0;
            });
        }
        everyCell();
        lowestEightBits();
        onlyThatByte();
        Check.end();
    }

    private static void everyCell() {
        ConditionDesk desk = Check.desk("byte[x1]");
        for (int address = 0; address < 256; address += 5) {
            desk.poke(address, 255 - address);
            desk.set(1, address);
            int want = 255 - address;
            Check.asked(desk, "byte " + address, want == 0 ? 0 : 1, want, 2);
        }
    }

    private static void lowestEightBits() {
        ConditionDesk desk = Check.desk("byte[255]");
        int[] given = {256, 511, -1, -256, 0x12345680, Integer.MIN_VALUE};
        int[] kept = {0, 255, 255, 0, 128, 0};
        for (int i = 0; i < given.length; i++) {
            desk.poke(255, given[i]);
            Check.asked(desk, "byte of " + given[i], kept[i] == 0 ? 0 : 1, kept[i], 2);
        }
    }

    private static void onlyThatByte() {
        ConditionDesk desk = Check.desk("[4]");
        desk.poke(3, 0x99);
        desk.poke(8, 0x99);
        desk.poke(5, 0x112);
        Check.asked(desk, "[4]", 1, 0x1200, 2);
        desk.poke(7, 0x7f);
        Check.asked(desk, "[4]", 1, 0x7f001200, 2);
        desk.poke(7, 0x80);
        Check.asked(desk, "[4]", 1, 0xffffffff80001200L, 2);
    }
}
