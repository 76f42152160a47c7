/** What the tests share: each call is told with the answer that is due, a wrong one is printed. */
final class Due {
    static final int UNKNOWN = -1;
    static final int BAD_VALUE = -2;
    static final int FULL = -3;
    static final int NOT_POSSIBLE = -4;
    static final int NONE = -5;

    private static int asked = 0;
    private static int wrong = 0;
    private static String sentence = "";
    private static int askedBySentence = 1;

    private Due() {
    }

    static void due(String call, long got, long want) {
        asked++;
        askedBySentence++;
        if (got != want) {
            wrong++;
            System.out.println(sentence + call + " answered " + got + ", due is " + want);
        }
    }

    /** Begins the test of a sentence of the document: it stands ahead of each wrong answer from here on. */
    static void sentence(String quoted) {
        endOfSentence();
        sentence = "\"" + quoted + "\": ";
        askedBySentence = 0;
    }

    private static void endOfSentence() {
        if (askedBySentence == 0) {
            wrong++;
            System.out.println(sentence + "nothing is asked");
        }
    }

    static void holds(String what, boolean so) {
        due(what, so ? 1 : 0, 1);
    }

    static void eventIs(String when, LampChanger x, int back, int event, int number, int tick) {
        due(when + ", event(" + back + ", 0)", x.event(back, 0), event);
        due(when + ", event(" + back + ", 1)", x.event(back, 1), number);
        due(when + ", event(" + back + ", 2)", x.event(back, 2), tick);
    }

    static void type(LampChanger x, String text) {
        for (int i = 0; i < text.length(); i++) {
            x.type(text.charAt(i));
        }
    }

    /** Types a text in place of the one that was and reads it as a plan. */
    static int read(LampChanger x, String text) {
        x.clearText();
        type(x, text);
        return x.readPlan();
    }

    /** Lets more ticks pass than one call takes; answers how many were dark. */
    static int pass(LampChanger x, int ticks) {
        int dark = 0;
        for (int left = ticks; left > 0; left -= 200) {
            dark += x.pass(Math.min(left, 200));
        }
        return dark;
    }

    static void end() {
        endOfSentence();
        System.out.println(asked + " answers, " + wrong + " not as due");
        if (wrong != 0 || asked == 0) {
            System.exit(1);
        }
    }
}
