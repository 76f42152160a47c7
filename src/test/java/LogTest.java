/** Promises 22 (event) and 23 (count). */
public final class LogTest {
    private static void promise22Errors() {
        LampChanger x = new LampChanger();
        int[] wrong = {-1, 3, Integer.MIN_VALUE, Integer.MAX_VALUE};
        for (int w : wrong) {
            Due.due("event(0, " + w + ")", x.event(0, w), Due.BAD_VALUE);
        }
        Due.due("event(-1, 0)", x.event(-1, 0), Due.BAD_VALUE);
        Due.due("event(min, 0)", x.event(Integer.MIN_VALUE, 0), Due.BAD_VALUE);
        Due.due("event(0, 0)", x.event(0, 0), Due.NONE);
        Due.due("event(10, 0)", x.event(10, 0), Due.NONE);
        Due.due("event(max, 0)", x.event(Integer.MAX_VALUE, 0), Due.NONE);
    }

    private static void promise22TheLatestTen() {
        LampChanger x = new LampChanger();
        x.pass(12);
        for (int socket = 0; socket <= 5; socket++) {
            x.putIn(socket, 0, 100);
        }
        for (int i = 0; i < 9; i++) {
            x.boat(12 + i, 0, 1);
        }
        x.pass(9);
        Due.due("the ninth back", x.event(8, 2), 12);
        Due.due("the tenth back", x.event(9, 0), Due.NONE);
        x.boat(21, 0, 1);
        x.pass(1);
        Due.due("the tenth back", x.event(9, 2), 12);
        Due.read(x, "22:0x1,23:0x1,24:0x1");
        x.pass(3);
        for (int back = 0; back <= 9; back++) {
            Due.due("event(" + back + ", 0)", x.event(back, 0), 4);
            Due.due("event(" + back + ", 1)", x.event(back, 1), 0);
            Due.due("event(" + back + ", 2)", x.event(back, 2), 24 - back);
        }
        Due.due("event(10, 2)", x.event(10, 2), Due.NONE);
        Due.due("boats", x.count(10), 13);
        x.undo();
        Due.due("the latest after undo", x.event(0, 2), 21);
        Due.due("the tenth after undo", x.event(9, 2), 12);
        Due.due("event(10, 2)", x.event(10, 2), Due.NONE);
        Due.due("no events of 0 to 3", x.count(9), 0);
    }

    private static void promise22AllFive() {
        LampChanger x = new LampChanger();
        x.setNight(0, 47);
        x.set(2, 1);
        x.putIn(0, 2, 50);
        x.putIn(2, 2, 150);
        x.boat(94, 0, 2);
        // burnt out at 90; the wheel turns from 91 on, and is there at 93
        Due.pass(x, 96);
        int[][] due = {{4, 2, 94}, {2, 2, 91}, {0, 0, 90}, {1, 0, 72}};
        for (int back = 0; back < due.length; back++) {
            for (int what = 0; what <= 2; what++) {
                Due.due("event(" + back + ", " + what + ")", x.event(back, what), due[back][what]);
            }
        }
        Due.due("behind them", x.event(due.length, 0), Due.NONE);
        Due.due("events 0 to 3", x.count(9), 3);
    }

    private static void promise23Errors() {
        LampChanger x = new LampChanger();
        int[] wrong = {-1, 14, Integer.MIN_VALUE, Integer.MAX_VALUE};
        for (int w : wrong) {
            Due.due("count(" + w + ")", x.count(w), Due.BAD_VALUE);
        }
    }

    private static void promise23Count() {
        LampChanger x = new LampChanger();
        x.setNight(0, 47);
        x.putIn(0, 2, 50);
        x.putIn(3, 1, 100);
        x.putIn(4, 1, 100);
        Due.pass(x, 80);
        Due.due("burnt out", x.count(2), 0);
        Due.due("tired", x.count(3), 1);
        Due.pass(x, 40);
        x.stock(0, 2);
        x.stock(1, 3);
        x.stock(2, 4);
        x.boat(9, 0, 1);
        x.boat(119, 0, 1);
        Due.type(x, "hello");
        // tired at 72, burnt out at 90; from 91 on it turns, and is there at 97: dark 91 to 94 and 96
        int[] due = {120, 3, 1, 0, 2, 3, 4, 5, 5, 3, 0, 2, 4, 5};
        for (int what = 0; what <= 13; what++) {
            Due.due("count(" + what + ")", x.count(what), due[what]);
        }
    }

    private static void promise23DarkRuns() {
        LampChanger x = new LampChanger();
        x.pass(12);
        Due.due("the first night", x.count(8), 12);
        x.pass(24 + 10);
        Due.due("days between do not matter", x.count(8), 22);
        x.putIn(0, 0, 100);
        x.pass(1);
        x.pass(14);
        Due.due("by day it can be taken out", x.takeOut(0), 24);
        Due.due("a lit tick ends it", x.count(8), 22);
        x.pass(23 + 21);
        Due.due("dark ticks", x.count(7), 22 + 21);
        Due.due("not so many as before", x.count(8), 22);
        x.pass(2);
        Due.due("more than before", x.count(8), 23);
    }

    public static void main(String[] args) {
        promise22Errors();
        promise22TheLatestTen();
        promise22AllFive();
        promise23Errors();
        promise23Count();
        promise23DarkRuns();
        Due.end();
    }
}
