/** Promise 2: type appends characters 32 .. 126, up to 120 of them. */
public final class Promise02TypeTest {
    public static void main(String[] args) {
        charactersThatAreTaken();
        noMoreThan120();
        Check.end();
    }

    private static void charactersThatAreTaken() {
        int taken = 0;
        ConditionDesk desk = new ConditionDesk();
        for (int c = 0; c < 200; c++) {
            boolean good = c >= 32 && c <= 126;
            Check.due("type of " + c, desk.type((char) c), good);
            taken += good ? 1 : 0;
            Check.due("count(0) after " + c, desk.count(0), taken);
            if (taken == 95) {
                // Room again, so that the characters behind 126 are not refused for want of it.
                desk.compile(0);
                taken = 0;
            }
        }
        Check.due("type of 65535", desk.type((char) 65535), false);
        Check.due("type of 288", desk.type((char) 288), false);
    }

    private static void noMoreThan120() {
        ConditionDesk desk = new ConditionDesk();
        for (int i = 0; i < 119; i++) {
            Check.due("type of a blank", desk.type(' '), true);
        }
        Check.due("type of the 120th", desk.type('7'), true);
        Check.due("type of the 121st", desk.type('7'), false);
        Check.due("type of the 122nd", desk.type(' '), false);
        Check.due("count(0)", desk.count(0), 120);
        Check.due("compile", desk.compile(0), 0);
        Check.asked(desk, "a full text", 1, 7, 1);
        Check.due("type into an empty text", desk.type('7'), true);
        Check.due("count(0)", desk.count(0), 1);
    }
}
