/** Promise 3: compile makes the text a condition, or tells the first fault and its place. */
public final class Promise03CompileTest {
    public static void main(String[] args) {
        wrongArguments();
        replaces();
        nothingButTheTextGoes();
        goodTexts();
        numbers();
        words();
        signs();
        tokensThatCantBeThere();
        theEnd();
        tooManyParts();
        tooDeep();
        theLesserOfOneToken();
        theFirstFromTheLeft();
        faultsLeaveNothingBehind();
        Check.end();
    }

    private static void wrongArguments() {
        ConditionDesk desk = Check.typed(new ConditionDesk(), "1");
        for (int k : new int[] {-1, 8, 9, Integer.MIN_VALUE, Integer.MAX_VALUE}) {
            Check.illegalArgument("compile(" + k + ")", () -> desk.compile(k));
        }
        Check.due("the text stays", desk.count(0), 1);
        for (int k = 0; k < 8; k++) {
            Check.due("compile(" + k + ")", Check.typed(desk, k == 0 ? "" : "1").compile(k), 0);
            Check.due("the text is empty", desk.count(0), 0);
            Check.due("conditions", desk.count(1), k + 1);
        }
    }

    private static void replaces() {
        ConditionDesk desk = Check.desk("old(x1)/x2");
        Check.asked(desk, "the first, failing", -1, 0, 4);
        desk.set(2, 1);
        desk.set(1, 5);
        desk.ask(0);
        Check.asked(desk, "the first", 1, 5, 3);
        desk.ignore(0, 9);
        Check.compiled(desk, 0, "old(x1)");
        for (int what : new int[] {0, 1, 2, 3, 5}) {
            Check.due("about(0, " + what + ") of the second", desk.about(0, what), 0);
        }
        Check.due("parts of the second", desk.about(0, 4), 3);
        Check.due("conditions", desk.count(1), 1);
        desk.set(1, 6);
        Check.asked(desk, "the second, not asked since it was compiled", 1, 6, 2);
        desk.set(1, 7);
        Check.asked(desk, "the second", 1, 6, 1);
    }

    private static void nothingButTheTextGoes() {
        ConditionDesk desk = Check.desk("old(x1)+1");
        desk.set(1, 3);
        desk.ask(0);
        desk.ignore(0, 2);
        desk.set(1, 4);
        Check.due("compile of a fault", Check.typed(desk, "1 + )").compile(0), 1 + 8 * 4);
        Check.due("characters", desk.count(0), 0);
        Check.due("value", desk.about(0, 0), 4);
        Check.due("hits", desk.about(0, 1), 1);
        Check.due("ignores", desk.about(0, 2), 2);
        Check.due("steps", desk.about(0, 3), 4);
        Check.due("parts", desk.about(0, 4), 5);
        Check.asked(desk, "the one that stays", 0, 4, 3);
        Check.due("compile of a fault", Check.typed(desk, "y").compile(5), 2);
        Check.illegalState("ask(5)", () -> desk.ask(5));
        Check.due("conditions", desk.count(1), 1);
    }

    private static void goodTexts() {
        Check.good("1", 1);
        Check.good("   1   ", 1);
        Check.good("changed([4*x1])&&x2>3", 10);
        Check.good("byte[1]", 3);
        Check.good("byte [ 1 ]", 3);
        Check.good("half[[0]]", 4);
        Check.good("!-~!x31", 5);
        Check.good("- -1", 3);
        Check.good("1--1", 4);
        Check.good("(((pc)))", 4);
        Check.good("old(changed(old(pid)))", 7);
        Check.good("1||2&&3==4!=5<6<=7>8>=9|1^2&3<<4>>5+6-7*8/9%1", 37);
    }

    private static void numbers() {
        Check.value("4294967295", 4294967295L);
        Check.value("0xffffffff", 4294967295L);
        Check.value("0000000000000000000012", 12);
        Check.value("0x0000000000000000000012", 18);
        Check.value("0x9a0bcdef", 0x9a0bcdefL);
        Check.value("1234567890", 1234567890);
        Check.fault("4294967296", 1, 0);
        Check.fault("0x100000000", 1, 0);
        Check.fault(" 18446744073709551617", 1, 1);
        Check.fault(" 0x10000000000000001", 1, 1);
        Check.fault("1+99999999999999999999999999999999999", 1, 2);
        Check.fault("1+0x", 1, 2);
        Check.fault("0x 1", 1, 0);
        Check.fault("0xg", 1, 0);
        Check.fault("0x1g", 1, 0);
        Check.fault("0xA", 1, 0);
        Check.fault("0xaA", 1, 0);
        Check.fault("0X1", 1, 0);
        Check.fault("12a", 1, 0);
        Check.fault("1x1", 1, 0);
        Check.fault("00x1", 1, 0);
        Check.fault("0x1x1", 1, 0);
        Check.fault("1 2", 1, 2);
        Check.fault("1_", 1, 1);
    }

    private static void words() {
        for (int r = 0; r < 32; r++) {
            Check.good("x" + r, 1);
        }
        for (String word : new String[] {"x", "x32", "x33", "x40", "x99", "x100", "x00", "x01", "x031", "x1a", "xa",
            "xa1", "x1x", "X1", "PC", "Pid", "pcc", "p", "counts", "coun", "olds", "ol", "a", "z", "A", "Z",
            "word", "xx1"}) {
            Check.fault(word, 2, 0);
            Check.fault("1 + " + word + " + 1", 2, 4);
        }
        Check.fault("bytes[1]", 2, 0);
        Check.fault("changedx(1)", 2, 0);
        Check.fault("x 1", 2, 0);
        Check.fault("p c", 2, 0);
    }

    private static void signs() {
        Check.good("1<-1", 4);
        Check.good("1<<-1", 4);
        Check.good("1&&~1", 4);
        Check.good("1&~1", 4);
        Check.good("1!=!1", 4);
        Check.fault("1<<<1", 1, 3);
        Check.fault("1|||1", 1, 3);
        Check.fault("1&&&1", 1, 3);
        Check.fault("1===1", 1, 3);
        Check.fault("1=1", 1, 1);
        Check.fault("1=", 1, 1);
        Check.fault("1= =1", 1, 1);
        Check.fault("1! =1", 1, 1);
        Check.fault("1< =1", 1, 3);
        Check.fault("1| |1", 1, 3);
        Check.fault("1<=>1", 1, 3);
        Check.fault("1>>=1", 1, 3);
        Check.fault("!=1", 1, 0);
        Check.fault("!!=1", 1, 1);
        Check.fault("1**1", 1, 2);
        Check.fault("1+/1", 1, 2);
    }

    private static void tokensThatCantBeThere() {
        String none = "\"#$',.:;?@_`{}\\";
        for (int i = 0; i < none.length(); i++) {
            Check.fault(" " + none.charAt(i), 1, 1);
            Check.fault("1" + none.charAt(i), 1, 1);
            Check.fault("old" + none.charAt(i), 1, 3);
        }
        for (String sign : new String[] {"||", "&&", "==", "!=", "<=", ">=", "<<", ">>", "<", ">", "|", "^", "&", "+",
            "*", "/", "%", ")", "]"}) {
            Check.fault(sign, 1, 0);
            Check.fault("(" + sign, 1, 1);
            Check.fault("byte" + sign, 1, 4);
            Check.fault("changed" + sign, 1, 7);
        }
        for (String operand : new String[] {"1", "x1", "pc", "count", "byte", "old", "~", "!", "(", "["}) {
            Check.fault("1 " + operand, 1, 2);
            Check.fault("(1)" + operand, 1, 3);
            Check.fault("[0] " + operand, 1, 4);
            Check.fault("old(1) " + operand, 1, 7);
        }
        Check.fault("1)", 1, 1);
        Check.fault("1]", 1, 1);
        Check.fault("(1]", 1, 2);
        Check.fault("[1)", 1, 2);
        Check.fault("([1)", 1, 3);
        Check.fault("[(1]", 1, 3);
        Check.fault("()", 1, 1);
        Check.fault("[]", 1, 1);
        Check.fault("old()", 1, 4);
        Check.fault("old[1]", 1, 3);
        Check.fault("changed[1]", 1, 7);
        Check.fault("byte(1)", 1, 4);
        Check.fault("half(1)", 1, 4);
        Check.fault("old 1", 1, 4);
        Check.fault("old -1", 1, 4);
        Check.fault("half 1", 1, 5);
        Check.fault("byte half[0]", 1, 5);
    }

    private static void theEnd() {
        Check.fault("", 1, 0);
        Check.fault("   ", 1, 3);
        Check.fault("1+", 1, 2);
        Check.fault("1+  ", 1, 4);
        Check.fault("(1", 1, 2);
        Check.fault("[1 ", 1, 3);
        Check.fault("old", 1, 3);
        Check.fault("byte", 1, 4);
        Check.fault("old(", 1, 4);
        Check.fault("-", 1, 1);
        Check.fault("(".repeat(8), 1, 8);
        Check.fault(" ".repeat(120), 1, 120);
        Check.fault(" ".repeat(119) + "~", 1, 120);
    }

    private static void tooManyParts() {
        Check.good("!".repeat(39) + "1", 40);
        Check.good("1+".repeat(19) + "-1", 40);
        Check.good("-" + "1+".repeat(19) + "1", 40);
        Check.good("-(" + "1+".repeat(18) + "1)", 39);
        Check.good("-" + "1+".repeat(18) + "(1)", 39);
        Check.good("!(" + "1+".repeat(17) + "[0] ) ", 38);
        Check.good("!" + "1+".repeat(16) + "old(x1) + byte[0]", 40);
        String full = "-" + "1+".repeat(19) + "1";
        Check.fault("!".repeat(40) + "1", 3, 40);
        Check.fault("!".repeat(41) + "1", 3, 40);
        Check.fault(full + "+1", 3, 40);
        Check.fault(full + "||x", 3, 40);
        Check.fault("!".repeat(40) + "[", 3, 40);
        Check.fault("!".repeat(40) + "(", 3, 40);
        Check.fault("!".repeat(40) + "old(1)", 3, 40);
        Check.fault("!".repeat(40) + "byte[1]", 3, 40);
        Check.fault("!".repeat(39) + "old(1)", 3, 42);
        Check.fault("!".repeat(39) + "changed(1)", 3, 46);
        Check.fault("!".repeat(39) + "half[1]", 3, 43);
        Check.fault("!".repeat(39) + "(1)", 3, 40);
        Check.fault("!".repeat(38) + "[1+1]", 3, 40);
        Check.good("!".repeat(38) + "[1]", 40);
        Check.good("!".repeat(38) + "(1)", 40);
        Check.good("!".repeat(37) + "old(1)", 40);
    }

    private static void tooDeep() {
        Check.good("((((((((1))))))))", 9);
        Check.good("[[[[[[[[1]]]]]]]]", 9);
        Check.good("old(old(old(old(byte[half[[(1)]]]))))", 15);
        Check.good("((((((((1)+(1))))))))+((((((((1))))))))", 22);
        Check.fault("((((((((([[[", 4, 8);
        Check.fault("[[[[[[[[[", 4, 8);
        Check.fault("((((((((byte[", 4, 12);
        Check.fault("(((((((( old(1", 4, 12);
        Check.fault("old(old(old(old(old(old(old(old(old(", 4, 35);
        Check.fault("([([([([ 1] + [(", 4, 15);
    }

    private static void theLesserOfOneToken() {
        Check.fault("1 foo", 1, 2);
        Check.fault("old foo", 1, 4);
        Check.fault("byte foo", 1, 5);
        Check.fault("!".repeat(40) + "foo", 2, 40);
        Check.fault("!".repeat(40) + "12a", 1, 40);
        Check.fault("!".repeat(40) + "4294967296", 1, 40);
        Check.fault("!".repeat(40) + "+", 1, 40);
        Check.fault("!".repeat(40), 1, 40);
        Check.fault("!".repeat(39) + "1 1", 1, 41);
        Check.fault("!".repeat(39) + "1)", 1, 40);
        Check.fault("!".repeat(39) + "1(", 1, 40);
        Check.fault("((((((((1(", 1, 9);
        Check.fault("((((((((1[", 1, 9);
        Check.fault("((((((((byte(", 1, 12);
        Check.fault("((((((((" + "!".repeat(32) + "(", 3, 40);
        Check.fault("((((((((" + "!".repeat(31) + "(", 4, 39);
        Check.fault("((((((((" + "!".repeat(32) + ")", 1, 40);
    }

    private static void theFirstFromTheLeft() {
        Check.fault("foo + )", 2, 0);
        Check.fault("1 + ) + foo", 1, 4);
        Check.fault("(((((((((foo", 4, 8);
        Check.fault("((((((((foo(", 2, 8);
        Check.fault("!".repeat(41) + ")", 3, 40);
        Check.fault("(1 + foo", 2, 5);
        Check.fault("x32 12a", 2, 0);
        Check.fault("12a x32", 1, 0);
    }

    private static void faultsLeaveNothingBehind() {
        ConditionDesk desk = new ConditionDesk();
        String[] faulty = {"1+2*(3-[4<<(", "((((((((1", "----", "1||2&&3==4|5^6&7<<8+9*", "old(byte[pc", "old", "half"};
        for (int turn = 0; turn < 4; turn++) {
            for (String text : faulty) {
                Check.due("compile of '" + text + "'", Check.typed(desk, text).compile(0), 1 + 8 * text.length());
            }
        }
        Check.compiled(desk, 0, "!".repeat(31) + "((((((((1))))))))");
        Check.due("parts", desk.about(0, 4), 40);
        Check.asked(desk, "the good one", 0, 0, 32);
        Check.compiled(desk, 0, "1-2-3");
        Check.asked(desk, "the good one", 1, -4, 5);
    }
}
