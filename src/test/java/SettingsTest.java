/** Promises 2 (set), 3 (setNight) and 24 (setting). */
public final class SettingsTest {
    private static final int[] LOWEST = {75, 1, 1, 0};
    private static final int[] HIGHEST = {99, 5, 5, 1};
    private static final int[] FIRST = {80, 2, 2, 0};

    private static void promise2Set() {
        for (int which = 0; which <= 3; which++) {
            LampChanger x = new LampChanger();
            Due.due("set below its range", x.set(which, LOWEST[which] - 1), Due.BAD_VALUE);
            Due.due("set above its range", x.set(which, HIGHEST[which] + 1), Due.BAD_VALUE);
            Due.due("set to the first value", x.set(which, FIRST[which]), Due.NONE);
            Due.due("states after no act", x.count(12), 0);
            Due.due("set to the highest", x.set(which, HIGHEST[which]), FIRST[which]);
            Due.due("set to the highest again", x.set(which, HIGHEST[which]), Due.NONE);
            Due.due("set to the lowest", x.set(which, LOWEST[which]), HIGHEST[which]);
            Due.due("states after two acts", x.count(12), 2);
            Due.due("setting", x.setting(which), LOWEST[which]);
        }
    }

    private static void promise2SetErrors() {
        LampChanger x = new LampChanger();
        int[] wrong = {-1, 4, Integer.MIN_VALUE, Integer.MAX_VALUE};
        for (int which : wrong) {
            Due.due("set(" + which + ", 1)", x.set(which, 1), Due.UNKNOWN);
            Due.due("set(" + which + ", -7)", x.set(which, -7), Due.UNKNOWN);
        }
        Due.due("set(0, min)", x.set(0, Integer.MIN_VALUE), Due.BAD_VALUE);
        Due.due("set(3, max)", x.set(3, Integer.MAX_VALUE), Due.BAD_VALUE);
        Due.due("states after errors", x.count(12), 0);
    }

    private static void promise3SetNight() {
        LampChanger x = new LampChanger();
        Due.due("setNight as it is", x.setNight(36, 12), Due.NONE);
        Due.due("states after no act", x.count(12), 0);
        Due.due("setNight(12, 36)", x.setNight(12, 36), 24);
        Due.due("dusk", x.wheel(6), 12);
        Due.due("dawn", x.wheel(7), 36);
        Due.due("night at place 0", x.wheel(4), 0);
        Due.due("setNight(0, 47)", x.setNight(0, 47), 47);
        Due.due("setNight(0, 1)", x.setNight(0, 1), 1);
        Due.due("night at dusk", x.wheel(4), 1);
        Due.due("setNight(47, 0)", x.setNight(47, 0), 1);
        Due.due("night at dawn", x.wheel(4), 0);
        Due.due("setNight(1, 0)", x.setNight(1, 0), 47);
        Due.due("setNight(47, 46)", x.setNight(47, 46), 47);
        Due.due("setNight(40, 2)", x.setNight(40, 2), 10);
        Due.due("setNight(40, 3), dusk alike", x.setNight(40, 3), 11);
        Due.due("setNight(41, 3), dawn alike", x.setNight(41, 3), 10);
        Due.due("undo", x.undo(), 3);
        Due.due("dusk after undo", x.wheel(6), 40);
        Due.due("dawn after undo", x.wheel(7), 3);
    }

    private static void promise3SetNightErrors() {
        LampChanger x = new LampChanger();
        int[][] wrong = {{-1, 5}, {5, -1}, {48, 5}, {5, 48}, {7, 7}, {36, 36}, {12, 12}, {0, 0},
            {Integer.MIN_VALUE, 0}, {0, Integer.MAX_VALUE}};
        for (int[] w : wrong) {
            Due.due("setNight(" + w[0] + ", " + w[1] + ")", x.setNight(w[0], w[1]), Due.BAD_VALUE);
        }
        Due.due("dusk", x.wheel(6), 36);
        Due.due("dawn", x.wheel(7), 12);
        Due.due("states after errors", x.count(12), 0);
    }

    private static void promise24Setting() {
        LampChanger x = new LampChanger();
        int[] wrong = {-1, 4, Integer.MIN_VALUE, Integer.MAX_VALUE};
        for (int which : wrong) {
            Due.due("setting(" + which + ")", x.setting(which), Due.UNKNOWN);
        }
        x.set(0, 91);
        x.set(1, 3);
        x.set(2, 4);
        x.set(3, 1);
        Due.due("setting(0)", x.setting(0), 91);
        Due.due("setting(1)", x.setting(1), 3);
        Due.due("setting(2)", x.setting(2), 4);
        Due.due("setting(3)", x.setting(3), 1);
        Due.due("settings told are no acts", x.count(12), 4);
    }

    public static void main(String[] args) {
        promise2Set();
        promise2SetErrors();
        promise3SetNight();
        promise3SetNightErrors();
        promise24Setting();
        Due.end();
    }
}
