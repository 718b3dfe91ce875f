/** The boundary cases of promise 2. */
public final class Promise02BoundaryTest {
    public static void main(String[] args) {
        theLeastAndTheGreatestCharacter();
        notOneOfThese();
        aRefusedCharacterIsNotAppended();
        atMost120();
        refusedWhenFull();
        emptyAgainWhenCompiled();
        Check.end();
    }

    private static void theLeastAndTheGreatestCharacter() {
        Check.sentence(2, "Appends a character to the text: true");
        ConditionDesk desk = new ConditionDesk();
        Check.due("type of 32", desk.type((char) 32), true);
        Check.due("count(0)", desk.count(0), 1);
        Check.due("type of 126", desk.type((char) 126), true);
        Check.due("count(0)", desk.count(0), 2);
        desk.type('0');
        Check.due("compile", desk.compile(0), 0);
        Check.asked(desk, "~0, typed", 1, -1, 2);
    }

    private static void notOneOfThese() {
        Check.sentence(2, "false when c is not 32 .. 126");
        ConditionDesk desk = new ConditionDesk();
        // The later ones have lowest bytes, or lowest seven bits, that would be good ones.
        for (int c : new int[] {0, 9, 10, 13, 31, 127, 128, 160, 177, 255, 256, 288, 305, 382, 0x7fff, 0x8031, 0xff31,
            65535}) {
            Check.due("type of " + c, desk.type((char) c), false);
            Check.due("count(0)", desk.count(0), 0);
        }
    }

    private static void aRefusedCharacterIsNotAppended() {
        Check.sentence(2, "false when c is not 32 .. 126");
        ConditionDesk desk = new ConditionDesk();
        desk.type('4');
        desk.type((char) 31);
        desk.type((char) 127);
        desk.type('2');
        Check.due("count(0)", desk.count(0), 2);
        Check.due("compile", desk.compile(0), 0);
        Check.asked(desk, "42, typed round refused ones", 1, 42, 1);
    }

    private static void atMost120() {
        Check.sentence(2, "or 120 are there");
        ConditionDesk desk = new ConditionDesk();
        for (int i = 1; i <= 120; i++) {
            Check.due("type number " + i, desk.type(i == 120 ? '1' : ' '), true);
        }
        Check.due("count(0)", desk.count(0), 120);
        Check.due("compile", desk.compile(0), 0);
        Check.asked(desk, "the 120th character", 1, 1, 1);
    }

    private static void refusedWhenFull() {
        Check.sentence(2, "or 120 are there");
        ConditionDesk desk = Check.typed(new ConditionDesk(), " ".repeat(119) + "1");
        Check.due("type of the 121st", desk.type('2'), false);
        Check.due("type of a blank, too", desk.type(' '), false);
        Check.due("type of one that is none", desk.type((char) 31), false);
        Check.due("count(0)", desk.count(0), 120);
        Check.due("compile", desk.compile(0), 0);
        Check.asked(desk, "the text without the 121st", 1, 1, 1);
    }

    private static void emptyAgainWhenCompiled() {
        Check.sentence(2, "or 120 are there");
        ConditionDesk desk = Check.typed(new ConditionDesk(), "~".repeat(120));
        Check.due("compile of a full text with a fault", desk.compile(0), 3 + 8 * 40);
        Check.due("count(0)", desk.count(0), 0);
        for (int i = 1; i <= 120; i++) {
            Check.due("type number " + i + " again", desk.type(' '), true);
        }
        Check.due("type of the 121st again", desk.type(' '), false);
    }
}
