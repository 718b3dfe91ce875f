/** Promise 1: a new object has no text and no conditions, and its machine is all 0. */
public final class Promise01NewObjectTest {
    public static void main(String[] args) {
        ConditionDesk desk = new ConditionDesk();
        Check.due("count(0)", desk.count(0), 0);
        Check.due("count(1)", desk.count(1), 0);
        Check.due("count(2)", desk.count(2), 0);
        Check.due("askAll()", desk.askAll(), 0);
        for (int k = 0; k < 8; k++) {
            int which = k;
            Check.illegalState("ask of a new object", () -> desk.ask(which));
            Check.due("drop of a new object", desk.drop(k), false);
        }
        machineIsZero();
        objectsAreApart();
        Check.end();
    }

    private static void machineIsZero() {
        for (int r = 0; r < 32; r++) {
            Check.value("x" + r, 0);
        }
        Check.value("pc|pid|count", 0);
        for (int address = 0; address < 256; address += 4) {
            Check.value("[" + address + "]", 0);
        }
    }

    private static void objectsAreApart() {
        ConditionDesk one = Check.desk("x1+[0]+count");
        ConditionDesk other = Check.desk("x1+[0]+count");
        one.set(1, 5);
        one.poke(0, 6);
        one.go(7);
        one.type('1');
        Check.asked(one, "the one", 1, 18, 6);
        Check.asked(other, "the other", 0, 0, 6);
        Check.due("count(0) of the other", other.count(0), 0);
    }
}
