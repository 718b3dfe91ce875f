import java.util.function.LongSupplier;

/** What the tests share: they compare answers, type texts, and end with code 1 if an answer was wrong. */
final class Check {
    private static int wrong = 0;
    private static String sentence = "";

    private Check() {
    }

    /** Which promise, and which of its sentences, the checks behind this one are for. */
    static void sentence(int promise, String words) {
        sentence = "promise " + promise + ", \"" + words + "\": ";
    }

    static void due(String call, long got, long want) {
        if (got != want) {
            wrong++;
            System.out.println(sentence + call + " answered " + got + ", due is " + want);
        }
    }

    static void due(String call, boolean got, boolean want) {
        due(call, got ? 1 : 0, want ? 1 : 0);
    }

    static void illegalArgument(String call, LongSupplier action) {
        throwing(call, action, IllegalArgumentException.class);
    }

    static void illegalState(String call, LongSupplier action) {
        throwing(call, action, IllegalStateException.class);
    }

    private static void throwing(String call, LongSupplier action, Class<?> want) {
        String got;
        try {
            got = "answered " + action.getAsLong();
        } catch (RuntimeException e) {
            if (e.getClass() == want) {
                return;
            }
            got = "threw " + e.getClass().getName();
        }
        wrong++;
        System.out.println(sentence + call + " " + got + ", due is a throw of " + want.getName());
    }

    static ConditionDesk typed(ConditionDesk desk, String text) {
        for (int i = 0; i < text.length(); i++) {
            due("type of '" + text.charAt(i) + "' in " + text, desk.type(text.charAt(i)), true);
        }
        return desk;
    }

    static ConditionDesk compiled(ConditionDesk desk, int k, String text) {
        due("compile of " + text, typed(desk, text).compile(k), 0);
        return desk;
    }

    static ConditionDesk desk(String text) {
        return compiled(new ConditionDesk(), 0, text);
    }

    static void fault(String text, int fault, int place) {
        due("compile of '" + text + "'", typed(new ConditionDesk(), text).compile(0), fault + 8 * place);
    }

    static void good(String text, int parts) {
        due("parts of '" + text + "'", desk(text).about(0, 4), parts);
    }

    /** Asks condition 0 and looks at the answer, the value and the steps. */
    static void asked(ConditionDesk desk, String what, int answer, long value, long steps) {
        due("ask of " + what, desk.ask(0), answer);
        due("value of " + what, desk.about(0, 0), value);
        due("steps of " + what, desk.about(0, 3), steps);
    }

    static void value(String text, long value) {
        ConditionDesk desk = desk(text);
        due("ask of " + text, desk.ask(0), value == 0 ? 0 : 1);
        due("value of " + text, desk.about(0, 0), value);
    }

    /** All that can be seen without asking: a call that is refused must leave it as it is. */
    static String state(ConditionDesk desk) {
        StringBuilder state = new StringBuilder();
        for (int what = 0; what < 3; what++) {
            state.append(desk.count(what)).append(' ');
        }
        for (int k = 0; k < 8; k++) {
            state.append(stateOf(desk, k));
        }
        return state.toString();
    }

    private static String stateOf(ConditionDesk desk, int k) {
        StringBuilder state = new StringBuilder("/");
        try {
            for (int what = 0; what < 6; what++) {
                state.append(' ').append(desk.about(k, what));
            }
        } catch (IllegalStateException e) {
            state.append(" not there ");
        }
        return state.toString();
    }

    static void same(String what, String got, String want) {
        if (!got.equals(want)) {
            wrong++;
            System.out.println(sentence + what + " is " + got + ", due is " + want);
        }
    }

    static void end() {
        if (wrong != 0) {
            System.out.println(wrong + " answers are wrong");
            System.exit(1);
        }
    }
}
