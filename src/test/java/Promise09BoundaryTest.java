/** The boundary cases of promise 9 and of the asking that the terms tell; old and changed are in another file. */
public final class Promise09BoundaryTest {
    public static void main(String[] args) {
        hitOrNot();
        passedOver();
        failing();
        noSuchCondition();
        notThere();
        arithmeticGoesRound();
        anyOtherValueThanNought();
        numbersAreNotInts();
        wordAndHalfSigned();
        theLowestByteFirst();
        theLowestSixBits();
        withTheSign();
        towardsNought();
        bIsNotWorked();
        theTruthOfB();
        fromThoseThatBindLeastOn();
        ofOneSortFromTheLeft();
        comparedWithItsNeighbours();
        againAndAgain();
        theMostThatWaitsAtOnce();
        divisionByNought();
        addressesThatAreNone();
        noMultiple();
        theFirstFailureCounts();
        begunToBeWorked();
        bracketsAreNoStep();
        Check.end();
    }

    private static void hitOrNot() {
        Check.sentence(9, "1 when it is hit, 0 when not");
        for (int k = 0; k < 8; k += 7) {
            ConditionDesk desk = Check.compiled(new ConditionDesk(), k, "x1");
            Check.due("ask(" + k + ") at 0", desk.ask(k), 0);
            desk.set(1, 2);
            Check.due("ask(" + k + ") at 2", desk.ask(k), 1);
            desk.set(1, -2);
            Check.due("ask(" + k + ") at -2", desk.ask(k), 1);
            Check.due("hits", desk.about(k, 1), 2);
        }
    }

    private static void passedOver() {
        Check.sentence(9, "0 when not (also when it ignores one)");
        ConditionDesk desk = Check.desk("-1");
        desk.ignore(0, 1);
        Check.asked(desk, "an ignored one", 0, -1, 2);
        Check.asked(desk, "the next one", 1, -1, 2);
    }

    private static void failing() {
        Check.sentence(9, "-1, -2 when it fails");
        ConditionDesk desk = Check.desk("1/x1+[x2]");
        desk.ignore(0, 1);
        Check.due("ask at a division by 0", desk.ask(0), -1);
        desk.set(1, 1);
        desk.set(2, 1);
        Check.due("ask at a wrong address", desk.ask(0), -2);
        Check.due("value", desk.about(0, 0), 0);
        Check.due("hits", desk.about(0, 1), 0);
        Check.due("ignores", desk.about(0, 2), 1);
        Check.due("failures", desk.about(0, 5), 2);
    }

    private static void noSuchCondition() {
        Check.sentence(9, "IllegalArgumentException when k is not 0 .. 7");
        ConditionDesk desk = Check.compiled(Check.desk("1"), 7, "1");
        String before = Check.state(desk);
        for (int k : new int[] {-1, 8, 15, -8, 256, Integer.MIN_VALUE, Integer.MAX_VALUE}) {
            Check.illegalArgument("ask(" + k + ")", () -> desk.ask(k));
        }
        Check.same("the state behind refused calls", Check.state(desk), before);
    }

    private static void notThere() {
        Check.sentence(9, "else IllegalStateException when it isn't there");
        ConditionDesk desk = Check.desk("1");
        String before = Check.state(desk);
        for (int k = 1; k < 8; k++) {
            int which = k;
            Check.illegalState("ask(" + k + ")", () -> desk.ask(which));
        }
        Check.same("the state behind refused calls", Check.state(desk), before);
        desk.drop(0);
        Check.illegalState("ask of one that went", () -> desk.ask(0));
    }

    private static void arithmeticGoesRound() {
        Check.sentence(9, "VALUES are longs, all arithmetic goes round");
        counted("count+1", Long.MAX_VALUE, Long.MIN_VALUE);
        counted("count-1", Long.MIN_VALUE, Long.MAX_VALUE);
        counted("count+count", Long.MIN_VALUE, 0);
        counted("-count", Long.MIN_VALUE, Long.MIN_VALUE);
        counted("-count", Long.MAX_VALUE, -Long.MAX_VALUE);
        counted("count*2", Long.MAX_VALUE, -2);
        counted("count*-1", Long.MIN_VALUE, Long.MIN_VALUE);
        counted("count*count", Long.MIN_VALUE, 0);
        counted("count*count", Long.MAX_VALUE, 1);
        counted("count/-1", Long.MIN_VALUE, Long.MIN_VALUE);
        counted("count%-1", Long.MIN_VALUE, 0);
        counted("~count", Long.MAX_VALUE, Long.MIN_VALUE);
        counted("count<<1", Long.MAX_VALUE, -2);
        counted("count<0", Long.MIN_VALUE, 1);
        counted("count-1>count", Long.MIN_VALUE, 1);
        counted("count+1<count", Long.MAX_VALUE, 1);
    }

    private static void anyOtherValueThanNought() {
        Check.sentence(9, "a truth is 1 or 0, any other value than 0 is taken as true");
        for (String value : new String[] {"1", "2", "-1", "1<<31", "1<<32", "1<<63", "0xffffffff"}) {
            Check.due("ask of " + value, Check.desk(value).ask(0), 1);
            Check.value("!(" + value + ")", 0);
            Check.value("!!(" + value + ")", 1);
            Check.value("0||" + value, 1);
            Check.value(value + "||0", 1);
            Check.value("1&&" + value, 1);
            Check.value("(" + value + ")&&1", 1);
        }
        Check.due("ask of 0", Check.desk("0").ask(0), 0);
        Check.value("!0", 1);
        Check.value("0||0", 0);
        Check.value("1&&0", 0);
    }

    private static void numbersAreNotInts() {
        Check.sentence(9, "VALUES are longs");
        Check.value("0x80000000", 1L << 31);
        Check.value("4294967295+1", 1L << 32);
        Check.value("0x7fffffff+1", 1L << 31);
        Check.value("0xffffffff==-1", 0);
        Check.value("0xffffffff>0", 1);
        Check.value("-0xffffffff", -4294967295L);
        Check.value("~0xffffffff", -1L << 32);
        Check.value("1<<32==0", 0);
        ConditionDesk desk = Check.desk("x1*x1-x1");
        desk.set(1, Integer.MIN_VALUE);
        Check.asked(desk, "registers as longs", 1, (1L << 62) + (1L << 31), 5);
    }

    private static void wordAndHalfSigned() {
        Check.sentence(9, "word and half signed, byte 0 .. 255");
        ConditionDesk desk = new ConditionDesk();
        for (int address : new int[] {0, 252}) {
            filled(desk, address, 0xff, 0xff, 0xff, 0xff);
            cell(desk, "[" + address + "]", -1);
            cell(desk, "half[" + address + "]", -1);
            cell(desk, "half[" + (address + 2) + "]", -1);
            cell(desk, "byte[" + (address + 3) + "]", 255);
            filled(desk, address, 0xff, 0x7f, 0xff, 0x7f);
            cell(desk, "[" + address + "]", 0x7fff7fff);
            cell(desk, "half[" + address + "]", 0x7fff);
            cell(desk, "byte[" + (address + 1) + "]", 0x7f);
            filled(desk, address, 0, 0x80, 0, 0x80);
            cell(desk, "[" + address + "]", 0xffffffff80008000L);
            cell(desk, "half[" + address + "]", -0x8000);
            cell(desk, "byte[" + (address + 1) + "]", 0x80);
            filled(desk, address, 0, 0, 0, 0x80);
            cell(desk, "[" + address + "]", Integer.MIN_VALUE);
        }
    }

    private static void theLowestByteFirst() {
        Check.sentence(9, "(the lowest byte first");
        ConditionDesk desk = new ConditionDesk();
        filled(desk, 0, 1, 2, 3, 4);
        filled(desk, 252, 5, 6, 7, 8);
        cell(desk, "[0]", 0x04030201);
        cell(desk, "half[0]", 0x0201);
        cell(desk, "half[2]", 0x0403);
        cell(desk, "byte[0]", 1);
        cell(desk, "byte[3]", 4);
        cell(desk, "[252]", 0x08070605);
        cell(desk, "half[254]", 0x0807);
        cell(desk, "byte[255]", 8);
    }

    private static void theLowestSixBits() {
        Check.sentence(9, "Shifts go by the lowest six bits");
        Check.value("3<<0", 3);
        Check.value("3<<31", 3L << 31);
        Check.value("3<<32", 3L << 32);
        Check.value("3<<63", Long.MIN_VALUE);
        Check.value("3<<64", 3);
        Check.value("3<<65", 6);
        Check.value("3<<127", Long.MIN_VALUE);
        Check.value("3<<128", 3);
        Check.value("3<<-1", Long.MIN_VALUE);
        Check.value("3<<-64", 3);
        Check.value("3<<0xffffffff", Long.MIN_VALUE);
        Check.value("3<<(1<<32)", 3);
        Check.value("3<<(1<<63)", 3);
        Check.value("12>>0", 12);
        Check.value("12>>2", 3);
        Check.value("12>>63", 0);
        Check.value("12>>64", 12);
        Check.value("12>>66", 3);
        Check.value("12>>-62", 3);
        Check.value("12>>-1", 0);
    }

    private static void withTheSign() {
        Check.sentence(9, ">> with the sign");
        Check.value("-1>>1", -1);
        Check.value("-1>>63", -1);
        Check.value("-8>>2", -2);
        Check.value("-7>>1", -4);
        Check.value("1<<63>>63", -1);
        Check.value("1<<62>>62", 1);
        Check.value("0xffffffff>>31", 1);
    }

    private static void towardsNought() {
        Check.sentence(9, "/ and % towards 0, the remainder with the sign of the first");
        int[] firsts = {7, 7, -7, -7, 6, -6, 1, -1, 0, 0};
        int[] seconds = {2, -2, 2, -2, 3, 3, 2, 2, 5, -5};
        int[] quotients = {3, -3, -3, 3, 2, -2, 0, 0, 0, 0};
        int[] remainders = {1, 1, -1, -1, 0, 0, 1, -1, 0, 0};
        for (int i = 0; i < firsts.length; i++) {
            ConditionDesk desk = Check.desk("x1/x2");
            desk.set(1, firsts[i]);
            desk.set(2, seconds[i]);
            Check.asked(desk, firsts[i] + "/" + seconds[i], quotients[i] == 0 ? 0 : 1, quotients[i], 3);
            Check.compiled(desk, 0, "x1%x2");
            Check.asked(desk, firsts[i] + "%" + seconds[i], remainders[i] == 0 ? 0 : 1, remainders[i], 3);
        }
        counted("count/2", Long.MIN_VALUE, Long.MIN_VALUE / 2);
        counted("count%10", Long.MIN_VALUE, -8);
        counted("1/count", Long.MIN_VALUE, 0);
        counted("1%count", Long.MIN_VALUE, 1);
    }

    private static void bIsNotWorked() {
        Check.sentence(9, "a || b is 1, and b is not worked, if a is true; a && b 0 likewise, if it is not");
        Check.asked(Check.desk("2||1/0"), "2||1/0", 1, 1, 2);
        Check.asked(Check.desk("-1||[1]"), "-1||[1]", 1, 1, 3);
        Check.asked(Check.desk("1<<32||[1]"), "1<<32||[1]", 1, 1, 4);
        Check.asked(Check.desk("0&&1/0"), "0&&1/0", 0, 0, 2);
        Check.asked(Check.desk("0&&[1]"), "0&&[1]", 0, 0, 2);
        Check.asked(Check.desk("0&&1/0||3"), "0&&1/0||3", 1, 1, 4);
        Check.asked(Check.desk("1||1/0||1/0"), "1||1/0||1/0", 1, 1, 3);
        Check.asked(Check.desk("1||1/0&&1/0"), "1||1/0&&1/0", 1, 1, 2);
    }

    private static void theTruthOfB() {
        Check.sentence(9, "else the truth of b");
        Check.asked(Check.desk("0||2"), "0||2", 1, 1, 3);
        Check.asked(Check.desk("0||0"), "0||0", 0, 0, 3);
        Check.asked(Check.desk("2&&2"), "2&&2", 1, 1, 3);
        Check.asked(Check.desk("2&&0"), "2&&0", 0, 0, 3);
        Check.asked(Check.desk("0||1/0"), "0||1/0", -1, 0, 5);
        Check.asked(Check.desk("2&&[1]"), "2&&[1]", -2, 0, 4);
    }

    /** Each sort with its neighbour, on either side of it: bound otherwise, the value would be another. */
    private static void fromThoseThatBindLeastOn() {
        Check.sentence(9, "from those that bind least on");
        Check.value("1||1&&0", 1);
        Check.value("0&&1||1", 1);
        Check.value("0&&0==0", 0);
        Check.value("2==2&&2", 1);
        Check.value("3&&1<1", 0);
        Check.value("2==0|2", 1);
        Check.value("2|0==2", 1);
        Check.value("1|1^1", 1);
        Check.value("1^1|1", 1);
        Check.value("1^1&0", 1);
        Check.value("0&1^1", 1);
        Check.value("1&1<<1", 0);
        Check.value("1<<1&1", 0);
        Check.value("1<<1+1", 4);
        Check.value("1+1<<1", 4);
        Check.value("16>>1-1", 16);
        Check.value("2+2*3", 8);
        Check.value("2*3+2", 8);
        Check.value("2+3%2", 3);
        Check.value("2-4/2", 0);
        Check.value("-2*3+1", -5);
        Check.value("!2*0", 0);
        Check.value("~1%2", 0);
        Check.value("-3/2", -1);
        Check.value("-1>>1", -1);
        Check.value("-7%4", -3);
        Check.value("~4/3", -1);
        Check.value("!0*7", 7);
        Check.value("(1||1)&&0", 0);
        Check.value("(0&&0)==0", 1);
        Check.value("(2+2)*3", 12);
        Check.value("!(2*0)", 1);
    }

    private static void comparedWithItsNeighbours() {
        Check.sentence(9, "== != < <= > >=");
        String[] signs = {"==", "!=", "<", "<=", ">", ">="};
        int[] below = {0, 1, 1, 1, 0, 0};
        int[] same = {1, 0, 0, 1, 0, 1};
        int[] above = {0, 1, 0, 0, 1, 1};
        for (int i = 0; i < signs.length; i++) {
            for (long count : new long[] {0, -1, 1, 1L << 31, 1L << 32, -1L << 32, Long.MAX_VALUE - 1,
                Long.MIN_VALUE + 1}) {
                counted("count-1" + signs[i] + "count", count, below[i]);
                counted("count" + signs[i] + "count", count, same[i]);
                counted("count+1" + signs[i] + "count", count, above[i]);
            }
            counted("count" + signs[i] + "~count", Long.MIN_VALUE, below[i]);
            counted("count" + signs[i] + "~count", Long.MAX_VALUE, above[i]);
        }
    }

    private static void ofOneSortFromTheLeft() {
        Check.sentence(9, "of one sort from the left");
        Check.value("1-2-3", -4);
        Check.value("1-2+3", 2);
        Check.value("64/4/2", 8);
        Check.value("64/4*2", 32);
        Check.value("7%4*3", 9);
        Check.value("1<<2<<3", 32);
        Check.value("1<<4>>1", 8);
        Check.value("3>2>1", 0);
        Check.value("3>2==1", 1);
        Check.value("1==1==1", 1);
        Check.value("2==2==2", 0);
        Check.value("0!=1<2", 1);
        Check.value("-1" + "-1".repeat(19), -20);
    }

    private static void againAndAgain() {
        Check.sentence(9, "then ! - ~ before one, again and again");
        Check.asked(Check.desk("-".repeat(39) + "5"), "39 times -", 1, -5, 40);
        Check.asked(Check.desk("-".repeat(38) + "5"), "38 times -", 1, 5, 39);
        Check.asked(Check.desk("~".repeat(39) + "5"), "39 times ~", 1, -6, 40);
        Check.asked(Check.desk("!".repeat(39) + "5"), "39 times !", 0, 0, 40);
        Check.asked(Check.desk("!".repeat(38) + "5"), "38 times !", 1, 1, 39);
        Check.value("-~5", 6);
        Check.value("~-5", 4);
        Check.value("!-~0", 0);
        Check.value("!~-1", 1);
        Check.value("-!0", -1);
        Check.value("2--2", 4);
        Check.value("2-~-!0", 2);
        Check.value("2*-3", -6);
    }

    /** Forty parts of which none can be worked before the last has come. */
    private static void theMostThatWaitsAtOnce() {
        Check.sentence(9, "[ e ], the word at address e of the cells");
        Check.asked(Check.desk("[[[[[[[[" + "-".repeat(31) + "0]]]]]]]]"), "eight words in one another", 0, 0, 40);
        ConditionDesk desk = Check.desk("[[[[[[[[" + "~".repeat(30) + "252]]]]]]]]");
        desk.poke(252, 4);
        desk.poke(4, 8);
        desk.poke(8, 4);
        Check.asked(desk, "all good", 1, 8, 39);
        desk.poke(8, 9);
        Check.asked(desk, "an address among them that is none", -2, 0, 39);
        Check.asked(Check.desk("1||(".repeat(8) + "1" + ")".repeat(8)), "the first of eight worked", 1, 1, 2);
        Check.asked(Check.desk("0||(".repeat(8) + "1" + ")".repeat(8)), "all of eight worked", 1, 1, 17);
    }

    private static void divisionByNought() {
        Check.sentence(9, "it FAILS when a division by 0 is met (1) .. then its value is 0");
        for (String text : new String[] {"1/0", "1%0", "0/0", "0%0", "5+1/0", "1/0+5", "1/(1-1)", "1/!1", "1/(2<<63)",
            "-(1/0)", "!(1/0)", "~(1/0)", "[1/0]", "1/0||1", "!(1/0)||1", "1/0==0", "1/[0]", "7%byte[255]"}) {
            failed(text, -1);
        }
        Check.value("1/1", 1);
        Check.value("1/(1<<32)", 0);
        Check.value("1%(1<<32)", 1);
        Check.value("1/-1", -1);
    }

    private static void addressesThatAreNone() {
        Check.sentence(9, "or an address that isn't 0 .. 255");
        for (String text : new String[] {"byte[-1]", "byte[256]", "half[-2]", "half[256]", "[-4]", "[256]",
            "[0xfffffffc]", "byte[1<<32]", "half[1<<32]", "[1<<32]", "byte[1<<63]", "[1<<63]", "[-(1<<32)]",
                "byte[~0]"}) {
            failed(text, -2);
        }
        for (String text : new String[] {"byte[0]", "byte[255]", "half[0]", "half[254]", "[0]", "[252]"}) {
            Check.value(text, 0);
        }
    }

    private static void noMultiple() {
        Check.sentence(9, "or for words and halves no multiple of 4 or 2 (2)");
        ConditionDesk words = Check.desk("[x1]");
        ConditionDesk halves = Check.desk("half[x1]");
        ConditionDesk bytes = Check.desk("byte[x1]");
        for (int address = -4; address < 260; address++) {
            boolean cell = address >= 0 && address < 256;
            words.set(1, address);
            halves.set(1, address);
            bytes.set(1, address);
            if (address < 20 || address > 240) {
                Check.due("word at " + address, words.ask(0), cell && address % 4 == 0 ? 0 : -2);
                Check.due("half at " + address, halves.ask(0), cell && address % 2 == 0 ? 0 : -2);
                Check.due("byte at " + address, bytes.ask(0), cell ? 0 : -2);
            }
        }
    }

    private static void theFirstFailureCounts() {
        Check.sentence(9, "when a division by 0 is met (1), or an address .. (2)");
        failed("1/0+[1]", -1);
        failed("[1]+1/0", -2);
        failed("[1]/0", -2);
        failed("1/0/[1]", -1);
        failed("[1/0]", -1);
        failed("1/[1]", -2);
        failed("[[1]]", -2);
        failed("1/0&&[1]", -1);
        failed("[1]||1/0", -2);
    }

    private static void begunToBeWorked() {
        Check.sentence(9, "that is begun to be worked counts as a STEP");
        stepped("7", 1);
        stepped("x0", 1);
        stepped("pc", 1);
        stepped("pid", 1);
        stepped("count", 1);
        stepped("-7", 2);
        stepped("7+7", 3);
        stepped("[0]", 2);
        stepped("byte[0]", 2);
        stepped("half[0]", 2);
        stepped("old(7)", 2);
        stepped("changed(7)", 2);
        stepped("1/0", 3);
        stepped("1/0+7", 4);
        stepped("7+1/0", 5);
        stepped("[1]+7", 3);
        stepped("-[1]*7", 4);
        stepped("1||7", 2);
        stepped("0&&7", 2);
        stepped("0||7", 3);
        stepped("1/0||7", 4);
        stepped("1/0&&7", 4);
        stepped("old(1/0)+7", 5);
        stepped("changed(1/0)+7", 5);
        stepped("1+".repeat(19) + "-1", 40);
    }

    private static void bracketsAreNoStep() {
        Check.sentence(9, "( ) does not");
        stepped("(7)", 1);
        stepped("((((((((7))))))))", 1);
        stepped("(7)+(7)", 3);
        stepped("[(0)]", 2);
        stepped("old((7))", 2);
    }

    private static void counted(String text, long count, long want) {
        ConditionDesk desk = Check.desk(text);
        desk.go(count);
        Check.due("ask of " + text + " at " + count, desk.ask(0), want == 0 ? 0 : 1);
        Check.due("value of " + text + " at " + count, desk.about(0, 0), want);
    }

    private static void failed(String text, int want) {
        ConditionDesk desk = Check.desk(text);
        Check.due("ask of " + text, desk.ask(0), want);
        Check.due("value of " + text, desk.about(0, 0), 0);
        Check.due("hits of " + text, desk.about(0, 1), 0);
        Check.due("failures of " + text, desk.about(0, 5), 1);
    }

    private static void stepped(String text, long want) {
        ConditionDesk desk = Check.desk(text);
        desk.ask(0);
        Check.due("steps of " + text, desk.about(0, 3), want);
        Check.due("all steps of " + text, desk.count(2), want);
    }

    private static void cell(ConditionDesk desk, String text, long want) {
        Check.compiled(desk, 0, text);
        Check.due("ask of " + text, desk.ask(0), want == 0 ? 0 : 1);
        Check.due("value of " + text, desk.about(0, 0), want);
    }

    private static void filled(ConditionDesk desk, int address, int... bytes) {
        for (int i = 0; i < bytes.length; i++) {
            desk.poke(address + i, bytes[i]);
        }
    }
}
