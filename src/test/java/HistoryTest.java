/** Promises 13 (undo), 14 (keep) and 15 (restore). */
public final class HistoryTest {
    private static void promise13Undo() {
        LampChanger x = new LampChanger();
        Due.due("undo of nothing", x.undo(), Due.NONE);
        for (int i = 1; i <= 6; i++) {
            x.stock(0, 1);
            Due.due("states", x.count(12), Math.min(i, 4));
        }
        for (int i = 3; i >= 0; i--) {
            Due.due("undo", x.undo(), i);
            Due.due("stock", x.count(4), i + 2);
        }
        Due.due("undo of nothing", x.undo(), Due.NONE);
        Due.due("the stock that is left", x.count(4), 2);
        x.stock(1, 2);
        Due.due("states", x.count(12), 1);
        Due.due("undo", x.undo(), 0);
        Due.due("stock", x.count(5), 0);
    }

    private static LampChanger afterMuch() {
        LampChanger x = new LampChanger();
        x.set(0, 99);
        x.set(1, 1);
        x.putIn(0, 2, 50);
        x.putIn(1, 2, 50);
        x.stock(1, 3);
        x.boat(20, 0, 1);
        x.boat(300, 0, 2);
        Due.pass(x, 140);
        return x;
    }

    private static void changeMuch(LampChanger x) {
        x.pass(190);
        x.set(2, 5);
        x.set(3, 1);
        x.takeOut(4);
    }

    private static void promise13UndoBringsAllBack() {
        LampChanger x = afterMuch();
        Told before = Told.state(x);
        changeMuch(x);
        for (int i = 3; i >= 0; i--) {
            Due.due("undo", x.undo(), i);
        }
        Told.state(x).isAs("after undo", before);
        LampChanger y = afterMuch();
        Due.due("goes on alike", x.pass(200), y.pass(200));
        Told.state(x).isAs("goes on alike", Told.state(y));
    }

    private static void promise14Keep() {
        LampChanger x = new LampChanger();
        x.pass(7);
        Due.due("keep", x.keep(), 7);
        Due.due("keep is no act", x.count(12), 1);
        x.pass(5);
        Due.due("restore", x.restore(), 7);
        x.pass(6);
        Due.due("keep in place of that", x.keep(), 13);
        x.pass(100);
        Due.due("restore", x.restore(), 13);
        Due.due("undo", x.undo(), 3);
        Due.due("the tick before", x.count(0), 113);
        Due.due("undo does not take the snapshot", x.restore(), 13);
    }

    private static void promise15Restore() {
        LampChanger x = new LampChanger();
        Due.due("no snapshot", x.restore(), Due.NONE);
        Due.due("NONE is no act", x.count(12), 0);
        Due.due("keep", x.keep(), 0);
        Due.due("restore", x.restore(), 0);
        Due.due("an act", x.count(12), 1);
    }

    private static void promise15RestoreBringsAllBack() {
        LampChanger x = afterMuch();
        Told before = Told.state(x);
        Due.due("keep", x.keep(), 140);
        changeMuch(x);
        Due.due("restore", x.restore(), 140);
        Told.state(x).isAs("after restore", before);
        changeMuch(x);
        Due.due("restore again", x.restore(), 140);
        Told.state(x).isAs("after restore again", before);
        Due.due("states", x.count(12), 4);
        Due.due("undo", x.undo(), 3);
        Due.due("a setting from before", x.setting(2), 5);
    }

    private static void promise13DarkRunIsPartOfTheState() {
        LampChanger x = new LampChanger();
        x.pass(5);
        x.putIn(0, 0, 100);
        x.pass(1);
        x.undo();
        x.undo();
        Due.due("dark ticks", x.pass(7), 7);
        Due.due("one behind the other", x.count(8), 12);
    }

    private static void wheelIs(LampChanger x, int front, int aim, int toGo, int burns) {
        int[] due = {front, aim, toGo, burns};
        for (int what = 0; what <= 3; what++) {
            Due.due("wheel(" + what + ")", x.wheel(what), due[what]);
        }
    }

    private static void promise13UndoOfATurn() {
        LampChanger x = new LampChanger();
        x.putIn(0, 0, 70);
        x.pass(3);
        x.turnTo(4);
        Due.due("dark while it turns", x.pass(3), 3);
        wheelIs(x, 0, 4, 5, 0);
        x.takeOut(0);
        x.putIn(0, 1, 150);
        x.undo();
        x.undo();
        Due.due("kind", x.lamp(0, 0), 0);
        Due.due("strength", x.lamp(0, 1), 70);
        Due.due("wear", x.lamp(0, 2), 13);
        Due.due("life", x.lamp(0, 3), 280);
        wheelIs(x, 0, 4, 5, 0);
        x.undo();
        wheelIs(x, 0, 4, 8, 0);
        Due.due("dark ticks", x.count(7), 0);
        Due.due("dark ticks one behind the other", x.count(8), 0);
        x.undo();
        wheelIs(x, 0, Due.NONE, 0, 1);
        Due.due("it burns on, not switched on again", x.pass(1), 0);
        Due.due("wear", x.lamp(0, 2), 14);
    }

    private static void promise15RestoreOfATurn() {
        LampChanger x = new LampChanger();
        x.putIn(0, 0, 70);
        x.pass(3);
        x.turnTo(4);
        x.pass(2);
        x.keep();
        x.pass(160);
        wheelIs(x, 0, Due.NONE, 0, 0);
        x.restore();
        wheelIs(x, 0, 4, 6, 0);
        Due.due("dark ticks", x.count(7), 2);
        Due.due("dark ticks one behind the other", x.count(8), 2);
        x.undo();
        wheelIs(x, 0, Due.NONE, 0, 0);
    }

    public static void main(String[] args) {
        promise13Undo();
        promise13UndoBringsAllBack();
        promise13UndoOfATurn();
        promise13DarkRunIsPartOfTheState();
        promise14Keep();
        promise15Restore();
        promise15RestoreBringsAllBack();
        promise15RestoreOfATurn();
        Due.end();
    }
}
