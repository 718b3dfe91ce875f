/** Promise 9: ask works a condition; what its text means is in the document's terms. */
public final class Promise09AskTest {
    public static void main(String[] args) {
        wrongArguments();
        signs();
        binding();
        fromTheLeft();
        goingRound();
        shifts();
        divisions();
        truths();
        cells();
        failures();
        steps();
        asDeepAsPartsGo();
        Check.end();
    }

    private static void wrongArguments() {
        ConditionDesk desk = Check.desk("1");
        for (int k : new int[] {-1, 8, Integer.MIN_VALUE, Integer.MAX_VALUE}) {
            Check.illegalArgument("ask(" + k + ")", () -> desk.ask(k));
        }
        for (int k = 1; k < 8; k++) {
            int which = k;
            Check.illegalState("ask(" + k + ")", () -> desk.ask(which));
        }
        Check.due("ask(0)", desk.ask(0), 1);
        Check.compiled(desk, 7, "0");
        Check.due("ask(7)", desk.ask(7), 0);
    }

    private static void signs() {
        Check.value("6|3", 7);
        Check.value("6^3", 5);
        Check.value("6&3", 2);
        Check.value("6+3", 9);
        Check.value("3-6", -3);
        Check.value("6*3", 18);
        Check.value("~0", -1);
        Check.value("-5", -5);
        Check.value("!5", 0);
        Check.value("!0", 1);
        Check.value("!-1", 0);
        Check.value("- - -5", -5);
        Check.value("~-1", 0);
        Check.value("!!7", 1);
        String[] compared = {"==", "!=", "<", "<=", ">", ">="};
        int[] less = {0, 1, 1, 1, 0, 0};
        int[] same = {1, 0, 0, 1, 0, 1};
        int[] more = {0, 1, 0, 0, 1, 1};
        for (int i = 0; i < compared.length; i++) {
            Check.value("-2" + compared[i] + "1", less[i]);
            Check.value("4" + compared[i] + "4", same[i]);
            Check.value("1" + compared[i] + "-2", more[i]);
        }
    }

    /** Each sign against the one that binds next: another order would give another value. */
    private static void binding() {
        Check.value("1||0&&0", 1);
        Check.value("2&&1==1", 1);
        Check.value("0&&0==0", 0);
        Check.value("0==1|1", 0);
        Check.value("4<2|4", 1);
        Check.value("1|1^1", 1);
        Check.value("1^1&0", 1);
        Check.value("1&2<<1", 0);
        Check.value("1<<1+1", 4);
        Check.value("16>>1+1", 4);
        Check.value("1+2*3", 7);
        Check.value("7-6/3", 5);
        Check.value("7+6%4", 9);
        Check.value("-1+2", 1);
        Check.value("~0*2", -2);
        Check.value("!0+1", 2);
        Check.value("-(1+2)", -3);
        Check.value("(1+2)*3", 9);
        Check.value("1==2<3", 1);
        Check.value("3>2==1", 1);
        Check.value("0==1<1", 1);
        Check.value("-[0]+1", 1);
        Check.value("-old(3)+1", -2);
        Check.value("!changed(3)", 1);
        Check.value("1+2<<1|1==7&&5||0", 1);
        Check.value("(0||1)*3", 3);
        Check.value("3*(2&&2)", 3);
        Check.value("byte[0||1]+2", 2);
        Check.value("old(0||1)+2", 3);
    }

    private static void fromTheLeft() {
        Check.value("10-4-3", 3);
        Check.value("10-4+3", 9);
        Check.value("100/10/5", 2);
        Check.value("100/10*5", 50);
        Check.value("7%4*2", 6);
        Check.value("1<<2<<3", 32);
        Check.value("256>>2<<1", 128);
        Check.value("5>4>3", 0);
        Check.value("5!=5==0", 1);
        Check.value("2<=2>=1", 1);
        Check.value("1-2-3-4-5", -13);
    }

    private static void goingRound() {
        ConditionDesk desk = Check.desk("count-1");
        desk.go(Long.MIN_VALUE);
        Check.asked(desk, "count-1", 1, Long.MAX_VALUE, 3);
        Check.compiled(desk, 0, "-count");
        Check.asked(desk, "-count", 1, Long.MIN_VALUE, 2);
        Check.compiled(desk, 0, "count*2");
        Check.asked(desk, "count*2", 0, 0, 3);
        Check.compiled(desk, 0, "count/-1");
        Check.asked(desk, "count/-1", 1, Long.MIN_VALUE, 4);
        Check.compiled(desk, 0, "count%-1");
        Check.asked(desk, "count%-1", 0, 0, 4);
        Check.compiled(desk, 0, "count<0");
        Check.asked(desk, "count<0", 1, 1, 3);
        Check.compiled(desk, 0, "x1+1");
        desk.set(1, Integer.MAX_VALUE);
        Check.asked(desk, "a register is a long when it is added", 1, 1L << 31, 3);
        Check.value("4294967295*4294967295", 4294967295L * 4294967295L);
        Check.value("0xffffffff*0xffffffff*0xffffffff", 4294967295L * 4294967295L * 4294967295L);
    }

    private static void shifts() {
        Check.value("1<<63", Long.MIN_VALUE);
        Check.value("1<<64", 1);
        Check.value("1<<65", 2);
        Check.value("3<<-1", Long.MIN_VALUE);
        Check.value("1<<32", 1L << 32);
        Check.value("-8>>1", -4);
        Check.value("-1>>63", -1);
        Check.value("-8>>64", -8);
        Check.value("8>>67", 1);
        Check.value("1<<-1>>-1", -1);
        Check.value("1<<0xffffffff", Long.MIN_VALUE);
        ConditionDesk desk = Check.desk("1<<count");
        desk.go(Long.MAX_VALUE);
        Check.asked(desk, "a long to shift by", 1, Long.MIN_VALUE, 3);
        desk.go(1L << 33);
        Check.asked(desk, "a long to shift by", 1, 1, 3);
    }

    private static void divisions() {
        Check.value("7/2", 3);
        Check.value("-7/2", -3);
        Check.value("7/-2", -3);
        Check.value("-7/-2", 3);
        Check.value("7%2", 1);
        Check.value("-7%2", -1);
        Check.value("7%-2", 1);
        Check.value("-7%-2", -1);
        Check.value("1/2", 0);
        Check.value("0/5", 0);
    }

    private static void truths() {
        Check.value("5||0", 1);
        Check.value("0||5", 1);
        Check.value("0||0", 0);
        Check.value("5&&-7", 1);
        Check.value("5&&0", 0);
        Check.value("0&&5", 0);
        Check.value("-1||1/0", 1);
        Check.value("0&&1/0", 0);
        Check.value("0&&[1]||2", 1);
        Check.value("1||1/0&&1/0", 1);
        ConditionDesk desk = Check.desk("x1-3");
        Check.asked(desk, "a value below 0", 1, -3, 3);
        desk.set(1, 3);
        Check.asked(desk, "0", 0, 0, 3);
        desk.set(1, 9);
        Check.asked(desk, "a value that is not 1", 1, 6, 3);
    }

    private static void cells() {
        ConditionDesk desk = new ConditionDesk();
        int[] bytes = {0x11, 0x82, 0x93, 0xf4};
        for (int i = 0; i < 4; i++) {
            desk.poke(8 + i, bytes[i]);
            desk.poke(252 + i, bytes[3 - i]);
        }
        cell(desk, "[8]", (int) 0xf4938211L);
        cell(desk, "half[8]", (short) 0x8211);
        cell(desk, "half[10]", (short) 0xf493);
        cell(desk, "byte[8]", 0x11);
        cell(desk, "byte[9]", 0x82);
        cell(desk, "byte[11]", 0xf4);
        cell(desk, "[252]", 0x118293f4);
        cell(desk, "half[252]", (short) 0x93f4);
        cell(desk, "half[254]", 0x1182);
        cell(desk, "byte[255]", 0x11);
        cell(desk, "byte[253]", 0x93);
        desk.set(4, 8);
        cell(desk, "byte[x4+byte[0]*2+1]", 0x82);
        cell(desk, "[[0]+8]", (int) 0xf4938211L);
    }

    private static void cell(ConditionDesk desk, String text, long want) {
        Check.compiled(desk, 0, text);
        Check.due("ask of " + text, desk.ask(0), 1);
        Check.due("value of " + text, desk.about(0, 0), want);
    }

    private static void failures() {
        for (String text : new String[] {"1/0", "1%0", "0/0", "1+2/(3-3)", "0||1%x0", "!(1/0)", "1/0||1",
            "1/0&&1", "(1/0)/[1]", "[1/0]", "changed(1/0)", "old(1/0)", "1/0<[1]", "-(5%0)"}) {
            failing(text, -1);
        }
        for (String text : new String[] {"[1]", "[2]", "[3]", "[254]", "[255]", "[256]", "[-4]", "half[1]", "half[255]",
            "half[256]", "half[-2]", "byte[256]", "byte[-1]", "byte[0xffffffff]", "[0xfffffffc]", "[1<<32]",
            "byte[1<<63]", "half[1<<40]", "[[1]]", "[1]/0", "[256]+1/0", "changed([1])", "old(byte[256])", "!half[3]",
            "[1]||1", "1/[1]"}) {
            failing(text, -2);
        }
        for (String text : new String[] {"[0]", "[4]", "[252]", "half[2]", "half[254]", "byte[0]", "byte[255]"}) {
            Check.value(text, 0);
        }
        failsAndRecovers();
    }

    private static void failing(String text, int want) {
        ConditionDesk desk = Check.desk(text);
        Check.due("ask of " + text, desk.ask(0), want);
        Check.due("value of " + text, desk.about(0, 0), 0);
        Check.due("failures of " + text, desk.about(0, 5), 1);
        Check.due("hits of " + text, desk.about(0, 1), 0);
    }

    private static void failsAndRecovers() {
        ConditionDesk desk = Check.desk("8/x1+[x2]");
        desk.set(1, 2);
        Check.asked(desk, "good", 1, 4, 6);
        desk.set(2, 1);
        Check.asked(desk, "an address", -2, 0, 6);
        desk.set(1, 0);
        Check.asked(desk, "the division comes first", -1, 0, 4);
        desk.set(1, -8);
        desk.set(2, 4);
        desk.poke(4, 1);
        Check.asked(desk, "good, and 0", 0, 0, 6);
        Check.due("failures", desk.about(0, 5), 2);
        Check.due("hits", desk.about(0, 1), 1);
    }

    private static void steps() {
        step("1", 1);
        step("((1))", 1);
        step("pc+pid*count", 5);
        step("!-~1", 4);
        step("byte[1]", 2);
        step("half[2]+[4]", 5);
        step("[[0]]", 3);
        step("1||1/0", 2);
        step("0||1", 3);
        step("0&&1/0", 2);
        step("1&&0", 3);
        step("1||2||3", 3);
        step("0&&1&&2", 3);
        step("0&&1||2&&3", 6);
        step("1/0+5", 4);
        step("5+1/0", 5);
        step("[1]+5", 3);
        step("5*(1%0-3)", 6);
        step("1/0||5", 4);
        step("!(1/0)&&5", 5);
        step("!(1/0)||5", 5);
        step("old(1+2)", 4);
        step("changed(1+2)", 4);
        step("old(1/0)+1", 5);
        step("changed([1])+1", 4);
    }

    private static void asDeepAsPartsGo() {
        Check.asked(Check.desk("-".repeat(39) + "1"), "39 signs before one", 1, -1, 40);
        Check.asked(Check.desk("~".repeat(39) + "5"), "39 signs before one", 1, -6, 40);
        Check.asked(Check.desk("-" + "1+".repeat(19) + "1"), "19 signs between", 1, 18, 40);
        Check.asked(Check.desk("-" + "1-".repeat(18) + "-2"), "as many, and one before", 1, -16, 39);
        ConditionDesk desk = Check.desk("-".repeat(37) + "old(x1)");
        desk.set(1, 3);
        Check.asked(desk, "old at the bottom", 1, -3, 39);
        desk.set(1, 4);
        Check.asked(desk, "old at the bottom", 1, -3, 38);
        Check.compiled(desk, 0, "old(" + "-".repeat(37) + "x1)");
        Check.asked(desk, "old at the top", 1, -4, 39);
        desk.set(1, 5);
        Check.asked(desk, "old at the top", 1, -4, 1);
        Check.asked(desk, "old at the top", 1, -5, 1);
    }

    private static void step(String text, long want) {
        ConditionDesk desk = Check.desk(text);
        desk.ask(0);
        Check.due("steps of " + text, desk.about(0, 3), want);
        Check.due("all steps", desk.count(2), want);
    }
}
