/** What the tests share: each call is told with the answer that is due, a wrong one is printed. */
final class Due {
    static final int UNKNOWN = -1;
    static final int BAD_VALUE = -2;
    static final int FULL = -3;
    static final int NOT_POSSIBLE = -4;
    static final int NONE = -5;

    private static int asked = 0;
    private static int wrong = 0;

    private Due() {
    }

    static void due(String call, long got, long want) {
        asked++;
        if (got != want) {
            wrong++;
            System.out.println(call + " answered " + got + ", due is " + want);
        }
    }

    static void holds(String what, boolean so) {
        due(what, so ? 1 : 0, 1);
    }

    static void type(LampChanger x, String text) {
        for (int i = 0; i < text.length(); i++) {
            x.type(text.charAt(i));
        }
    }

    /** Types a text in place of the one that was and reads it as a plan. */
    static int read(LampChanger x, String text) {
        x.clearText();
        type(x, text);
        return x.readPlan();
    }

    /** Lets more ticks pass than one call takes; answers how many were dark. */
    static int pass(LampChanger x, int ticks) {
        int dark = 0;
        for (int left = ticks; left > 0; left -= 200) {
            dark += x.pass(Math.min(left, 200));
        }
        return dark;
    }

    /** Limit 99 and patience 1: a small weak lamp is tired in the first tick in which it burns. */
    static LampChanger quicklyTired() {
        LampChanger x = new LampChanger();
        x.set(0, 99);
        x.set(1, 1);
        return x;
    }

    static void end() {
        System.out.println(asked + " answers, " + wrong + " not as due");
        if (wrong != 0 || asked == 0) {
            System.exit(1);
        }
    }
}
