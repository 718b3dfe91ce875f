/** The boundary cases of the texts that promise 3 compiles, and of their faults, as the terms tell them. */
public final class Promise03TextBoundaryTest {
    private static final String FULL = "!".repeat(40);
    private static final String EIGHT = "((((((((";

    public static void main(String[] args) {
        theLongestText();
        blanksEndWhatIsInFrontOfThem();
        numbersBelow2To32();
        noLetterOrDigitBehindANumber();
        digitsBehind0x();
        wordsOfLettersAndDigits();
        theLongestThatCanBe();
        registersWithout0InFront();
        theFirstFaultFromTheLeft();
        oneThatCantBeThere();
        noneOfThese();
        atTheEnd();
        aWordThatIsNone();
        atMost40Parts();
        whatIsAPart();
        withinEightOthers();
        othersThatAreOpenNoMore();
        theLesserNumberOfOneToken();
        Check.end();
    }

    private static void theLongestText() {
        Check.sentence(3, "A TEXT has at most 120 characters");
        Check.good("1" + " ".repeat(119), 1);
        Check.good(" ".repeat(119) + "1", 1);
        Check.value("0".repeat(119) + "7", 7);
        Check.value("0x" + "0".repeat(117) + "f", 15);
        Check.value("1" + " ".repeat(117) + "+2", 3);
        Check.fault("a".repeat(120), 2, 0);
        Check.fault("9".repeat(120), 1, 0);
        Check.fault("0x" + "f".repeat(118), 1, 0);
        Check.fault("1" + " ".repeat(118) + "2", 1, 119);
        Check.fault("1" + " ".repeat(118) + "+", 1, 120);
        Check.good("1+" + " ".repeat(116) + "x3", 3);
        Check.fault("1+" + " ".repeat(115) + "x32", 2, 117);
    }

    private static void blanksEndWhatIsInFrontOfThem() {
        Check.sentence(3, "Blanks (32) stand between TOKENS or not, and end what is in front of them");
        Check.good("1+1", 3);
        Check.good(" 1 + 1 ", 3);
        Check.good("old   (  x1  )", 3);
        Check.good("byte [ 0 ]", 3);
        Check.fault("1 1", 1, 2);
        Check.fault("x 1", 2, 0);
        Check.fault("x1 1", 1, 3);
        Check.fault("0 x1", 1, 2);
        Check.fault("0x 1", 1, 0);
        Check.fault("ol d(1)", 2, 0);
        Check.fault("1 | | 1", 1, 4);
        Check.fault("1 & & 1", 1, 4);
        Check.fault("1 = = 1", 1, 2);
        Check.fault("1 < = 1", 1, 4);
        Check.fault("1 > > 1", 1, 4);
        Check.fault("1 ! = 1", 1, 2);
    }

    private static void numbersBelow2To32() {
        Check.sentence(3, "NUMBERS: .. below 2^32");
        Check.value("0", 0);
        Check.value("0x0", 0);
        Check.value("4294967295", 4294967295L);
        Check.value("0xffffffff", 4294967295L);
        Check.value("0000000004294967295", 4294967295L);
        Check.value("0x000000000ffffffff", 4294967295L);
        Check.fault("4294967296", 1, 0);
        Check.fault("0x100000000", 1, 0);
        Check.fault("00000004294967296", 1, 0);
        Check.fault("4294967295+4294967296", 1, 11);
        // These would be small ones, if they went round as ints or as longs.
        Check.fault("4294967297", 1, 0);
        Check.fault("18446744073709551616", 1, 0);
        Check.fault("18446744073709551617", 1, 0);
        Check.fault("0x10000000000000000", 1, 0);
        Check.fault("9223372036854775808", 1, 0);
        Check.fault("99999999999999999999999999", 1, 0);
    }

    private static void noLetterOrDigitBehindANumber() {
        Check.sentence(3, "NUMBERS: .. (no letter, digit behind it)");
        for (String text : new String[] {"1a", "1z", "1A", "1Z", "1x", "10x1", "00x1", "1pc", "9old", "0X1", "0b1",
            "0xfg", "0xfF", "0x1x", "0xz", "0x9Z"}) {
            Check.fault(text, 1, 0);
            Check.fault("(" + text + ")", 1, 1);
        }
        Check.value("1+x0", 1);
        Check.value("(1)", 1);
        Check.value("0xf+x0", 15);
    }

    private static void digitsBehind0x() {
        Check.sentence(3, "0x and digits 0 .. 9 a .. f");
        String digits = "0123456789abcdef";
        for (int i = 0; i < digits.length(); i++) {
            Check.value("0x" + digits.charAt(i), i);
        }
        // The characters right before and behind 0 .. 9 and a .. f.
        Check.fault("0x", 1, 0);
        Check.fault("0x/1", 1, 0);
        Check.fault("0x:", 1, 0);
        Check.fault("0x`", 1, 0);
        Check.fault("0xg", 1, 0);
        Check.fault("0xA", 1, 0);
        Check.fault("0xF", 1, 0);
        Check.fault("1:", 1, 1);
        Check.value("8/2", 4);
    }

    private static void wordsOfLettersAndDigits() {
        Check.sentence(3, "WORDS: letters and digits, the first a letter");
        for (String word : new String[] {"a", "z", "A", "Z", "a0", "z9", "pc0", "pid1", "count9", "old1", "byteZ"}) {
            Check.fault(word, 2, 0);
        }
        // The characters right before and behind A .. Z, a .. z and 0 .. 9.
        for (String none : new String[] {"@", "[", "`", "{", ":", "_"}) {
            Check.fault("pc" + none, 1, 2);
        }
        Check.good("pc/pc", 3);
        Check.fault("@pc", 1, 0);
        Check.fault("_pc", 1, 0);
    }

    private static void theLongestThatCanBe() {
        Check.sentence(3, "the longest that can be");
        Check.value("4<<1", 8);
        Check.value("4<=4", 1);
        Check.value("4>>1", 2);
        Check.value("4>=5", 0);
        Check.value("2||0", 1);
        Check.value("2|1", 3);
        Check.value("2&&1", 1);
        Check.value("2&3", 2);
        Check.value("2!=!2", 1);
        Check.value("1<-1", 0);
        Check.value("1<~1", 0);
        Check.value("2&&!0", 1);
        Check.fault("1<<<1", 1, 3);
        Check.fault("1<<=1", 1, 3);
        Check.fault("1>>>1", 1, 3);
        Check.fault("1>==1", 1, 3);
        Check.fault("1===1", 1, 3);
        Check.fault("1!==1", 1, 3);
        Check.fault("1|||1", 1, 3);
        Check.fault("1&&&1", 1, 3);
        Check.fault("!=1", 1, 0);
        Check.fault("x11x", 2, 0);
        Check.fault("oldx1", 2, 0);
        Check.value("x0==0", 1);
    }

    private static void registersWithout0InFront() {
        Check.sentence(3, "x and 0 .. 31 (without 0 in front)");
        for (String text : new String[] {"x0", "x1", "x9", "x10", "x19", "x20", "x29", "x30", "x31"}) {
            Check.good(text, 1);
        }
        for (String text : new String[] {"x", "x32", "x33", "x39", "x40", "x99", "x00", "x01", "x09", "x031", "x000",
            "x100", "x310", "x4294967296", "x4294967297", "xa", "x1a", "x0x1", "xx1", "X1", "x3a"}) {
            Check.fault(text, 2, 0);
        }
        Check.fault("x-1", 2, 0);
    }

    private static void theFirstFaultFromTheLeft() {
        Check.sentence(3, "the first one from left to right, at its token");
        Check.fault("y + ) + (((((((((", 2, 0);
        Check.fault("1 + ) + y", 1, 4);
        Check.fault("((((((((( y", 4, 8);
        Check.fault("(((((((( y (", 2, 9);
        Check.fault(FULL + "1 y", 3, 40);
        Check.fault("!".repeat(39) + "y 1 1", 2, 39);
        Check.fault("(1 + y", 2, 5);
        Check.fault("1 +   yy   + 1", 2, 6);
        Check.fault("1   12a", 1, 4);
    }

    private static void oneThatCantBeThere() {
        Check.sentence(3, "1 one that can't be there");
        for (String sign : new String[] {"||", "&&", "==", "!=", "<", "<=", ">", ">=", "|", "^", "&", "<<", ">>", "+",
            "*", "/", "%", ")", "]"}) {
            Check.fault(sign + "1", 1, 0);
            Check.fault("1+" + sign + "1", 1, 2);
            Check.fault("[" + sign, 1, 1);
        }
        for (String begun : new String[] {"!", "~", "(", "[", "1", "x1", "pc", "pid", "count", "old", "changed", "byte",
            "half"}) {
            Check.fault("1 " + begun, 1, 2);
            Check.fault("(1) " + begun, 1, 4);
        }
        Check.fault("()", 1, 1);
        Check.fault("[]", 1, 1);
        Check.fault("(1]", 1, 2);
        Check.fault("[1)", 1, 2);
        Check.fault("1)", 1, 1);
        Check.fault("1]", 1, 1);
        Check.fault("(1))", 1, 3);
        Check.fault("[1]]", 1, 3);
        Check.fault("old[1]", 1, 3);
        Check.fault("changed 1", 1, 8);
        Check.fault("byte(1)", 1, 4);
        Check.fault("half 1", 1, 5);
        Check.fault("byte byte[1]", 1, 5);
        Check.fault("old old(1)", 1, 4);
    }

    private static void noneOfThese() {
        Check.sentence(3, "1 one that .. is none of these");
        String none = "\"#$',.:;=?@\\_`{}";
        for (int i = 0; i < none.length(); i++) {
            Check.fault("" + none.charAt(i), 1, 0);
            Check.fault("1 " + none.charAt(i), 1, 2);
            Check.fault("1" + none.charAt(i), 1, 1);
            Check.fault("byte[1" + none.charAt(i), 1, 6);
        }
    }

    private static void atTheEnd() {
        Check.sentence(3, "(at the end, if a token must come: at the place behind the last character)");
        Check.fault("", 1, 0);
        Check.fault(" ", 1, 1);
        Check.fault(" ".repeat(120), 1, 120);
        Check.fault("(1", 1, 2);
        Check.fault("[1", 1, 2);
        Check.fault("(1 ", 1, 3);
        Check.fault("1+", 1, 2);
        Check.fault("1+ ", 1, 3);
        Check.fault("!", 1, 1);
        Check.fault("old", 1, 3);
        Check.fault("half", 1, 4);
        Check.fault("old(", 1, 4);
        Check.fault("byte[1", 1, 6);
        Check.fault("1 ||", 1, 4);
        Check.fault(EIGHT + "1" + ")))))))", 1, 16);
        Check.good(EIGHT + "1" + "))))))))", 9);
    }

    private static void aWordThatIsNone() {
        Check.sentence(3, "2 a word that is none of those said");
        for (String word : new String[] {"p", "pcs", "PC", "pi", "pids", "coun", "counts", "Count", "byt", "bytes",
            "hal", "halfs", "ol", "olds", "change", "changeds", "word", "and", "not", "x", "pc1"}) {
            Check.fault(word, 2, 0);
            Check.fault("-" + word, 2, 1);
            Check.fault("[ " + word, 2, 2);
        }
        for (String word : new String[] {"pc", "pid", "count"}) {
            Check.good(word, 1);
        }
        for (String word : new String[] {"byte[0]", "half[0]", "old(0)", "changed(0)"}) {
            Check.good(word, 3);
        }
    }

    private static void atMost40Parts() {
        Check.sentence(3, "3 a part too many: .. at most 40");
        Check.good("!".repeat(38) + "1", 39);
        Check.good("!".repeat(39) + "1", 40);
        Check.fault(FULL + "1", 3, 40);
        Check.fault("!".repeat(41), 3, 40);
        Check.good("1" + "+1".repeat(19) + " ", 39);
        Check.fault("1" + "+1".repeat(20), 3, 40);
        Check.fault("1" + "+1".repeat(19) + "+", 1, 40);
        Check.good("-1" + "+1".repeat(19), 40);
        Check.fault("-1" + "+1".repeat(19) + "+1", 3, 40);
        Check.fault(" - 1" + " + 1".repeat(19) + "   *", 3, 83);
    }

    /** Each is the 40th part, which may be there, and then the 41st, which may not. */
    private static void whatIsAPart() {
        Check.sentence(3, "each number, word (old and changed, too), sign before or between, [ and ( is one");
        for (String word : new String[] {"7", "0xf", "x31", "pc", "pid", "count"}) {
            Check.good("!".repeat(39) + word, 40);
            Check.fault(FULL + word, 3, 40);
        }
        for (String opened : new String[] {"(1)", "[1]"}) {
            Check.good("!".repeat(38) + opened, 40);
            Check.fault("!".repeat(39) + opened, 3, 40);
            Check.fault(FULL + opened, 3, 40);
        }
        for (String word : new String[] {"old", "changed"}) {
            Check.good("!".repeat(37) + word + "(1)", 40);
            Check.fault("!".repeat(38) + word + "(1)", 3, 39 + word.length());
            Check.fault("!".repeat(39) + word + "(1)", 3, 39 + word.length());
            Check.fault(FULL + word + "(1)", 3, 40);
        }
        for (String word : new String[] {"byte", "half"}) {
            Check.good("!".repeat(37) + word + "[1]", 40);
            Check.fault("!".repeat(38) + word + "[1]", 3, 39 + word.length());
            Check.fault("!".repeat(39) + word + "[1]", 3, 39 + word.length());
            Check.fault(FULL + word + "[1]", 3, 40);
        }
        for (String sign : new String[] {"||", "&&", "==", "!=", "<", "<=", ">", ">=", "|", "^", "&", "<<", ">>", "+",
            "-", "*", "/", "%"}) {
            Check.good("!".repeat(37) + "1" + sign + "1", 40);
            Check.fault("!".repeat(38) + "1" + sign + "1", 3, 39 + sign.length());
            Check.fault("!".repeat(39) + "1" + sign + "1", 3, 40);
        }
        for (String sign : new String[] {"!", "-", "~"}) {
            Check.good(sign.repeat(39) + "1", 40);
            Check.fault(sign.repeat(41), 3, 40);
        }
        Check.good("!".repeat(38) + "(1)" + " ".repeat(79), 40);
    }

    private static void withinEightOthers() {
        Check.sentence(3, "4 a ( or [ within eight others that are open");
        Check.good("(((((((1)))))))", 8);
        Check.good(EIGHT + "1))))))))", 9);
        Check.good("[[[[[[[[1]]]]]]]]", 9);
        Check.good("([([([([1])])])])", 9);
        Check.good("old(changed(byte[half[[((old(1)))]]]))", 14);
        Check.fault(EIGHT + "(1", 4, 8);
        Check.fault(EIGHT + "[1", 4, 8);
        Check.fault("[[[[[[[[[1", 4, 8);
        Check.fault("[[[[[[[[(1", 4, 8);
        Check.fault(EIGHT + "old(1", 4, 11);
        Check.fault(EIGHT + "changed (1", 4, 16);
        Check.fault(EIGHT + "byte[1", 4, 12);
        Check.fault(EIGHT + "half[1", 4, 12);
        Check.fault("old(old(old(old(old(old(old(old(old(1", 4, 35);
        Check.fault("((((((((((((", 4, 8);
    }

    private static void othersThatAreOpenNoMore() {
        Check.sentence(3, "others that are open");
        Check.good("(((((((1)+(1)+[1]+byte[1]+old(1)))))))", 22);
        Check.good("((((((((1)))))))+(1))", 12);
        Check.good("(1)+(1)+(1)+(1)+(1)+(1)+(1)+(1)+[1]", 26);
        Check.good("((((((((1))))))))+((((((((1))))))))", 19);
        Check.fault("((((((((1))))))))+(((((((((1", 4, 26);
        Check.fault("(((((((1)+((1", 1, 13);
        Check.fault("(((((((1)+(((1", 4, 12);
        Check.fault("[[[[[[[1]+[[[1", 4, 12);
    }

    private static void theLesserNumberOfOneToken() {
        Check.sentence(3, "Of one token the lesser number counts");
        Check.fault("1 y", 1, 2);
        Check.fault("old y", 1, 4);
        Check.fault("byte y", 1, 5);
        Check.fault(FULL + "y", 2, 40);
        Check.fault("!".repeat(39) + "1 y", 1, 41);
        Check.fault("!".repeat(39) + "1 1", 1, 41);
        Check.fault("!".repeat(39) + "1!", 1, 40);
        Check.fault(FULL + ")", 1, 40);
        Check.fault(FULL + "1a", 1, 40);
        Check.fault(FULL + "4294967296", 1, 40);
        Check.fault(FULL, 1, 40);
        Check.fault(EIGHT + "1(", 1, 9);
        Check.fault(EIGHT + "1[", 1, 9);
        Check.fault(EIGHT + "byte(", 1, 12);
        Check.fault(EIGHT + "old[", 1, 11);
        Check.fault(EIGHT + "!".repeat(31) + "(", 4, 39);
        Check.fault(EIGHT + "!".repeat(32) + "(", 3, 40);
        Check.fault(EIGHT + "!".repeat(32) + "[", 3, 40);
        Check.fault(EIGHT + "!".repeat(31) + "1[", 1, 40);
    }
}
