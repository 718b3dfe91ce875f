/** Promise 12: count tells of the desk as a whole. */
public final class Promise12CountTest {
    public static void main(String[] args) {
        ConditionDesk desk = new ConditionDesk();
        for (int what : new int[] {-1, 3, 4, 8, Integer.MIN_VALUE, Integer.MAX_VALUE}) {
            Check.due("count(" + what + ")", desk.count(what), -1);
        }
        characters(desk);
        conditions(desk);
        steps();
        Check.end();
    }

    private static void characters(ConditionDesk desk) {
        desk.type(' ');
        Check.due("characters", desk.count(0), 1);
        desk.type('\n');
        Check.due("characters", desk.count(0), 1);
        desk.type('1');
        Check.due("characters", desk.count(0), 2);
        desk.compile(0);
        Check.due("characters", desk.count(0), 0);
    }

    private static void conditions(ConditionDesk desk) {
        Check.due("conditions", desk.count(1), 1);
        Check.compiled(desk, 0, "2");
        Check.due("conditions", desk.count(1), 1);
        Check.compiled(desk, 7, "2");
        Check.due("conditions", desk.count(1), 2);
        desk.compile(7);
        Check.due("conditions", desk.count(1), 2);
        desk.drop(0);
        desk.drop(0);
        Check.due("conditions", desk.count(1), 1);
    }

    private static void steps() {
        ConditionDesk desk = Check.desk("1+1");
        Check.due("steps", desk.count(2), 0);
        desk.ask(0);
        Check.due("steps", desk.count(2), 3);
        Check.compiled(desk, 1, "1/0+1");
        desk.ask(1);
        Check.due("steps, those of a failure too", desk.count(2), 7);
        desk.askAll();
        Check.due("steps", desk.count(2), 14);
        desk.drop(0);
        desk.drop(1);
        Check.due("steps stay when conditions go", desk.count(2), 14);
        desk.compile(0);
        Check.compiled(desk, 0, "1");
        Check.due("steps stay when one is compiled", desk.count(2), 14);
        desk.ask(0);
        Check.due("steps", desk.count(2), 15);
    }
}
