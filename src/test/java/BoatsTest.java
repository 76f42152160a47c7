/** Promises 8 (boat), 9 (readPlan) and 21 (planned). */
public final class BoatsTest {
    private static void planIs(LampChanger x, int... rows) {
        Due.due("boats of the plan", x.count(11), rows.length / 3);
        for (int i = 0; i < rows.length; i++) {
            Due.due("planned(" + i / 3 + ", " + i % 3 + ")", x.planned(i / 3, i % 3), rows[i]);
        }
        Due.due("behind the last boat", x.planned(rows.length / 3, 0), Due.NONE);
    }

    private static void promise8Boat() {
        LampChanger x = new LampChanger();
        Due.due("boat", x.boat(50, 1, 3), 1);
        Due.due("one ahead", x.boat(0, 0, 1), 2);
        Due.due("one behind", x.boat(9999, 2, 6), 3);
        Due.due("one between", x.boat(49, 2, 2), 4);
        planIs(x, 0, 0, 1, 49, 2, 2, 50, 1, 3, 9999, 2, 6);
        Due.due("replaced", x.boat(50, 0, 4), 4);
        planIs(x, 0, 0, 1, 49, 2, 2, 50, 0, 4, 9999, 2, 6);
        Due.due("states", x.count(12), 4);
        Due.due("the same again is an act", x.boat(50, 0, 4), 4);
        x.undo();
        x.undo();
        planIs(x, 0, 0, 1, 49, 2, 2, 50, 1, 3, 9999, 2, 6);
    }

    private static void promise8BoatErrors() {
        LampChanger x = new LampChanger();
        int[][] wrong = {{-1, 0, 1}, {10000, 0, 1}, {5, -1, 1}, {5, 3, 1}, {5, 0, 0}, {5, 0, 7},
            {Integer.MIN_VALUE, 0, 1}, {Integer.MAX_VALUE, 0, 1}, {0, 0, Integer.MAX_VALUE}};
        for (int[] w : wrong) {
            Due.due("boat(" + w[0] + ", " + w[1] + ", " + w[2] + ")", x.boat(w[0], w[1], w[2]),
                    Due.BAD_VALUE);
        }
        Due.due("states after errors", x.count(12), 0);
        for (int i = 1; i <= 10; i++) {
            Due.due("boat " + i, x.boat(1000 - 7 * i, i % 3, 1 + i % 6), i);
        }
        Due.due("an eleventh", x.boat(5, 0, 1), Due.FULL);
        Due.due("BAD_VALUE ahead of FULL", x.boat(5, 0, 7), Due.BAD_VALUE);
        Due.due("one of the ten", x.boat(930, 2, 6), 10);
        Due.due("planned first", x.planned(0, 0), 930);
        Due.due("planned first, lamps", x.planned(0, 2), 6);
        Due.due("planned last", x.planned(9, 0), 993);
        Due.due("behind the last", x.planned(10, 0), Due.NONE);
    }

    private static void promise8BoatsStay() {
        LampChanger x = new LampChanger();
        x.boat(3, 0, 1);
        x.pass(3);
        Due.due("not yet", x.count(10), 0);
        x.pass(1);
        Due.due("it came", x.count(10), 1);
        planIs(x, 3, 0, 1);
        Due.due("one of a tick that was", x.boat(2, 1, 1), 2);
        x.pass(10);
        Due.due("none came", x.count(10), 1);
    }

    private static void promise9ReadPlan() {
        LampChanger x = new LampChanger();
        x.boat(77, 0, 1);
        Due.due("one boat", Due.read(x, "0:0x1"), 1);
        planIs(x, 0, 0, 1);
        Due.due("the text stays", x.count(13), 5);
        Due.due("the largest numbers", Due.read(x, "9999:2x6"), 1);
        planIs(x, 9999, 2, 6);
        Due.due("ticks are put in order", Due.read(x, "30:1x2,4:2x3,1200:0x6"), 3);
        planIs(x, 4, 2, 3, 30, 1, 2, 1200, 0, 6);
        Due.due("the last of a tick", Due.read(x, "30:1x2,4:2x3,30:0x6,4:1x1"), 2);
        planIs(x, 4, 1, 1, 30, 0, 6);
        Due.due("states", x.count(12), 4);
        Due.due("read once more", x.readPlan(), 2);
        x.undo();
        x.undo();
        planIs(x, 4, 2, 3, 30, 1, 2, 1200, 0, 6);
        Due.due("the text is no part of a state", x.count(13), 25);
        Due.due("ten boats", Due.read(x, "9:0x1,8:0x1,7:0x1,6:0x1,5:0x1,4:0x1,3:0x1,2:0x1,1:0x1,0:0x1"), 10);
        Due.due("first", x.planned(0, 0), 0);
        Due.due("last", x.planned(9, 0), 9);
        Due.due("ten boats of one tick", Due.read(x, "9:0x1,9:0x1,9:0x1,9:0x1,9:0x1,9:0x1,9:0x1,9:0x1,9:0x1,9:1x2"), 1);
        planIs(x, 9, 1, 2);
    }

    private static void fault(String text, int at) {
        LampChanger x = new LampChanger();
        x.boat(77, 0, 1);
        Due.due("readPlan() of \"" + text + "\"", Due.read(x, text), -100 - at);
        Due.due("states after a fault", x.count(12), 1);
        planIs(x, 77, 0, 1);
    }

    private static void promise9Faults() {
        fault("", 0);
        fault("0", 1);
        fault("1234", 4);
        fault("5:", 2);
        fault("5:1", 3);
        fault("5:1x", 4);
        fault("5:1x1,", 6);
        fault("5:1x1,6", 7);
        fault(":", 0);
        fault(",", 0);
        fault("x", 0);
        fault(" 5:1x1", 0);
        fault("-5:1x1", 0);
        fault("/:1x1", 0);
        fault("05:1x1", 1);
        fault("00:1x1", 1);
        fault("0000:1x1", 1);
        fault("12345:1x1", 4);
        fault("10000:1x1", 4);
        fault("1a:1x1", 1);
        fault("5;1x1", 1);
        fault("5x1x1", 1);
        fault("5,", 1);
        fault("5::1x1", 2);
        fault("5:3x1", 2);
        fault("5:/x1", 2);
        fault("5:ax1", 2);
        fault("5:1X1", 3);
        fault("5:11x1", 3);
        fault("5:1,", 3);
        fault("5:1x0", 4);
        fault("5:1x7", 4);
        fault("5:1xx", 4);
        fault("5:1x1x", 5);
        fault("5:1x12", 5);
        fault("5:1x1 ", 5);
        fault("5:1x1;6:1x1", 5);
        fault("5:1x1,,6:1x1", 6);
        fault("5:1x1,06:1x1", 7);
        fault("5:1x1,6:1x1,7:1x9", 16);
        fault("5:1x1,\u0000", 6);
        fault("\u0660:1x1", 0);
        fault("5:\u0661x1", 2);
        fault("5:1x\uffff", 4);
        fault("1234:0x1,1234:0x1,1234:0x1,1234:0x1,1234:0x1,1234:0x1,1234:0", 60);
    }

    private static void promise21Planned() {
        LampChanger x = new LampChanger();
        x.boat(8, 2, 5);
        int[] wrong = {-1, 3, Integer.MIN_VALUE, Integer.MAX_VALUE};
        for (int w : wrong) {
            Due.due("planned(0, " + w + ")", x.planned(0, w), Due.BAD_VALUE);
            Due.due("planned(7, " + w + ")", x.planned(7, w), Due.BAD_VALUE);
        }
        Due.due("planned(-1, 0)", x.planned(-1, 0), Due.BAD_VALUE);
        Due.due("planned(min, 0)", x.planned(Integer.MIN_VALUE, 0), Due.BAD_VALUE);
        Due.due("planned(1, 0)", x.planned(1, 0), Due.NONE);
        Due.due("planned(10, 0)", x.planned(10, 0), Due.NONE);
        Due.due("planned(max, 2)", x.planned(Integer.MAX_VALUE, 2), Due.NONE);
        planIs(x, 8, 2, 5);
        Due.due("states", x.count(12), 1);
    }

    public static void main(String[] args) {
        promise8Boat();
        promise8BoatErrors();
        promise8BoatsStay();
        promise9ReadPlan();
        promise9Faults();
        promise21Planned();
        Due.end();
    }
}
