/** The example of README.md, call by call, with the answers that stand there. */
public final class ReadmeTest {
    public static void main(String[] args) {
        ConditionDesk desk = new ConditionDesk();
        Check.typed(desk, "changed([4*x1]) && x2 > 3");
        Check.due("compile(0)", desk.compile(0), 0);
        desk.set(2, 9);
        Check.due("the first ask(0)", desk.ask(0), 0);
        desk.poke(0, 1);
        Check.due("ask(0) behind poke(0, 1)", desk.ask(0), 1);
        Check.due("about(0, 1)", desk.about(0, 1), 1);
        Check.due("ignore(0, 1)", desk.ignore(0, 1), 0);
        desk.poke(0, 2);
        Check.due("askAll()", desk.askAll(), 0);
        desk.set(1, 64);
        Check.due("ask(0) behind set(1, 64)", desk.ask(0), -2);
        Check.due("count(2)", desk.count(2), 30);
        Check.end();
    }
}
