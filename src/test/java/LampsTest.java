/** Promises 4 (putIn), 5 (takeOut), 6 (turnTo), 7 (stock) and 16 (lamp). */
public final class LampsTest {
    private static void promise4PutIn() {
        LampChanger x = new LampChanger();
        Due.due("plain", x.putIn(0, 0, 100), 400);
        Due.due("strong", x.putIn(1, 1, 100), 700);
        Due.due("small", x.putIn(2, 2, 100), 200);
        Due.due("weakest", x.putIn(3, 0, 50), 200);
        Due.due("strongest", x.putIn(4, 1, 150), 1050);
        Due.due("small of 51", x.putIn(5, 2, 51), 102);
        Due.due("lamps", x.count(1), 6);
        Due.due("into a full socket", x.putIn(0, 0, 100), Due.NOT_POSSIBLE);
        Due.due("states", x.count(12), 4);
        Due.due("stock is not used", x.count(4), 0);
        x.undo();
        Due.due("lamps after undo", x.count(1), 5);
    }

    private static void promise4PutInErrors() {
        LampChanger x = new LampChanger();
        x.putIn(1, 0, 100);
        int[] sockets = {-1, 6, Integer.MIN_VALUE, Integer.MAX_VALUE};
        for (int socket : sockets) {
            Due.due("putIn(" + socket + ", 0, 100)", x.putIn(socket, 0, 100), Due.UNKNOWN);
            Due.due("putIn(" + socket + ", 9, 9)", x.putIn(socket, 9, 9), Due.UNKNOWN);
        }
        Due.due("kind -1", x.putIn(0, -1, 100), Due.BAD_VALUE);
        Due.due("kind 3", x.putIn(0, 3, 100), Due.BAD_VALUE);
        Due.due("strength 49", x.putIn(0, 0, 49), Due.BAD_VALUE);
        Due.due("strength 151", x.putIn(0, 0, 151), Due.BAD_VALUE);
        Due.due("strength 151 into a full socket", x.putIn(1, 0, 151), Due.BAD_VALUE);
        Due.due("kind 3 into a full socket", x.putIn(1, 3, 100), Due.BAD_VALUE);
        Due.due("into a full socket", x.putIn(1, 2, 100), Due.NOT_POSSIBLE);
        Due.due("states", x.count(12), 1);
        Due.due("lamps", x.count(1), 1);
        Due.due("the lamp that was", x.lamp(1, 0), 0);
    }

    private static void promise5TakeOut() {
        LampChanger x = new LampChanger();
        x.putIn(0, 0, 100);
        x.putIn(3, 1, 100);
        Due.due("a new one", x.takeOut(3), 0);
        Due.due("it is gone", x.lamp(3, 0), Due.NONE);
        Due.due("no stock from it", x.count(5), 0);
        Due.due("an empty socket", x.takeOut(3), Due.NOT_POSSIBLE);
        x.pass(1);
        Due.due("one that burns", x.takeOut(0), Due.NOT_POSSIBLE);
        Due.due("states", x.count(12), 4);
        x.pass(12);
        Due.due("at the front by day", x.takeOut(0), 22);
        Due.due("undo", x.undo(), 3);
        Due.due("it is there again", x.lamp(0, 2), 22);
        int[] sockets = {-1, 6, Integer.MIN_VALUE, Integer.MAX_VALUE};
        for (int socket : sockets) {
            Due.due("takeOut(" + socket + ")", x.takeOut(socket), Due.UNKNOWN);
        }
    }

    private static void promise5TakeOutForgetsTheLamp() {
        LampChanger x = new LampChanger();
        x.set(0, 99);
        x.set(1, 1);
        x.putIn(0, 2, 50);
        x.pass(13);
        Due.due("tired", x.lamp(0, 5), 1);
        Due.due("below", x.lamp(0, 7), 12);
        Due.due("takeOut", x.takeOut(0), 17);
        Due.due("putIn", x.putIn(0, 2, 100), 200);
        Due.due("a new one is not tired", x.lamp(0, 5), 0);
        Due.due("a new one has no wear", x.lamp(0, 2), 0);
        Due.due("a new one was never below", x.lamp(0, 7), 0);
    }

    private static void promise6TurnTo() {
        LampChanger x = new LampChanger();
        Due.due("to the front", x.turnTo(0), Due.NONE);
        Due.due("states", x.count(12), 0);
        Due.due("to 5", x.turnTo(5), 10);
        Due.due("aim", x.wheel(1), 5);
        Due.due("ticks to go", x.wheel(2), 10);
        Due.due("front", x.wheel(0), 0);
        Due.due("while it turns", x.turnTo(3), Due.NOT_POSSIBLE);
        Due.due("to the front while it turns", x.turnTo(0), Due.NOT_POSSIBLE);
        Due.due("UNKNOWN while it turns", x.turnTo(6), Due.UNKNOWN);
        x.pass(9);
        Due.due("front", x.wheel(0), 0);
        Due.due("ticks to go", x.wheel(2), 1);
        x.pass(1);
        Due.due("front", x.wheel(0), 5);
        Due.due("aim", x.wheel(1), Due.NONE);
        Due.due("0 comes behind 5", x.turnTo(0), 2);
        Due.due("no event", x.event(0, 0), Due.NONE);
        Due.due("no event counted", x.count(9), 0);
        x.undo();
        Due.due("still after undo", x.wheel(1), Due.NONE);
        x.set(2, 5);
        Due.due("five ticks a step", x.turnTo(4), 25);
        int[] sockets = {-1, 6, Integer.MIN_VALUE, Integer.MAX_VALUE};
        for (int socket : sockets) {
            Due.due("turnTo(" + socket + ")", x.turnTo(socket), Due.UNKNOWN);
        }
    }

    private static void promise6TurnToPutsTheLampOut() {
        LampChanger x = new LampChanger();
        x.putIn(0, 0, 100);
        x.set(2, 1);
        x.pass(3);
        Due.due("wear", x.lamp(0, 2), 13);
        Due.due("burns", x.wheel(3), 1);
        Due.due("turnTo(3)", x.turnTo(3), 3);
        Due.due("burns no more", x.wheel(3), 0);
        Due.due("can be taken out", x.takeOut(0), 13);
        x.undo();
        Due.due("dark while it turns, and the wheel goes on", x.pass(3), 3);
        Due.due("event", x.event(0, 0), 2);
        Due.due("aim", x.event(0, 1), 0);
        Due.due("tick", x.event(0, 2), 5);
        Due.due("lit as soon as it is there", x.pass(3), 2);
        Due.due("switched on again", x.lamp(0, 2), 24);
    }

    private static void promise7Stock() {
        LampChanger x = new LampChanger();
        for (int i = 1; i <= 16; i++) {
            Due.due("stock(1, 6)", x.stock(1, 6), 6 * i);
        }
        Due.due("96 and 4", x.stock(1, 4), Due.FULL);
        Due.due("another kind", x.stock(0, 1), 1);
        Due.due("another kind", x.stock(2, 5), 5);
        Due.due("96 and 3", x.stock(1, 3), 99);
        Due.due("99 and 1", x.stock(1, 1), Due.FULL);
        Due.due("plain ones", x.count(4), 1);
        Due.due("strong ones", x.count(5), 99);
        Due.due("small ones", x.count(6), 5);
        Due.due("no lamp is put in", x.count(1), 0);
        int[][] wrong = {{-1, 1}, {3, 1}, {1, 0}, {1, 7}, {1, -1}, {3, 7},
            {Integer.MAX_VALUE, 1}, {0, Integer.MAX_VALUE}, {0, Integer.MIN_VALUE}};
        for (int[] w : wrong) {
            Due.due("stock(" + w[0] + ", " + w[1] + ")", x.stock(w[0], w[1]), Due.BAD_VALUE);
        }
        x.undo();
        Due.due("strong ones after undo", x.count(5), 96);
    }

    private static void promise16Lamp() {
        LampChanger x = new LampChanger();
        x.putIn(0, 1, 70);
        int[] fresh = {1, 70, 0, 490, 1400, 0, 0, 0};
        for (int what = 0; what <= 7; what++) {
            Due.due("lamp(0, " + what + ")", x.lamp(0, what), fresh[what]);
        }
        x.pass(12);
        // 15 by switching on and 12 by burning; 1400 * 27 / 1960 is 19 and a bit
        int[] worn = {1, 70, 27, 490, 1381, 0, 0, 0};
        for (int what = 0; what <= 7; what++) {
            Due.due("worn lamp(0, " + what + ")", x.lamp(0, what), worn[what]);
        }
        int[] wrong = {-1, 8, Integer.MIN_VALUE, Integer.MAX_VALUE};
        for (int w : wrong) {
            Due.due("lamp(0, " + w + ")", x.lamp(0, w), Due.BAD_VALUE);
            Due.due("an empty socket: lamp(1, " + w + ")", x.lamp(1, w), Due.BAD_VALUE);
        }
        int[] sockets = {-1, 6, Integer.MIN_VALUE, Integer.MAX_VALUE};
        for (int socket : sockets) {
            Due.due("lamp(" + socket + ", 0)", x.lamp(socket, 0), Due.UNKNOWN);
            Due.due("lamp(" + socket + ", 8)", x.lamp(socket, 8), Due.UNKNOWN);
        }
        Due.due("an empty socket", x.lamp(1, 7), Due.NONE);
        Due.due("states", x.count(12), 2);
    }

    private static void promise16CurrentsOfTheKinds() {
        int[] strength = {100, 100, 75};
        int[] nominal = {1000, 1400, 700};
        int[] wear = {11, 16, 6};
        // less 1000 * 11 / 1600, 1400 * 16 / 2800 and 700 * 6 / 600
        int[] current = {994, 1392, 693};
        for (int kind = 0; kind <= 2; kind++) {
            LampChanger x = new LampChanger();
            x.putIn(0, kind, strength[kind]);
            Due.due("current of a new one, kind " + kind, x.lamp(0, 4), nominal[kind]);
            x.pass(1);
            Due.due("wear by a tick, kind " + kind, x.lamp(0, 2), wear[kind]);
            Due.due("current after a tick, kind " + kind, x.lamp(0, 4), current[kind]);
        }
    }

    private static void promise16BurntOut() {
        LampChanger x = new LampChanger();
        x.setNight(0, 47);
        x.putIn(0, 2, 50);
        Due.pass(x, 90);
        // 5 and 47 by day one, 5 and 42 then: 99
        Due.due("wear", x.lamp(0, 2), 99);
        Due.due("current", x.lamp(0, 4), 527);
        Due.due("burnt out", x.lamp(0, 6), 0);
        x.pass(1);
        int[] due = {2, 50, 100, 100, 0, 1, 1, 20};
        for (int what = 0; what <= 7; what++) {
            Due.due("burnt out: lamp(0, " + what + ")", x.lamp(0, what), due[what]);
        }
        Due.due("burns no more", x.wheel(3), 0);
        Due.due("can be taken out", x.takeOut(0), 100);
    }

    public static void main(String[] args) {
        promise4PutIn();
        promise4PutInErrors();
        promise5TakeOut();
        promise5TakeOutForgetsTheLamp();
        promise6TurnTo();
        promise6TurnToPutsTheLampOut();
        promise7Stock();
        promise16Lamp();
        promise16CurrentsOfTheKinds();
        promise16BurntOut();
        Due.end();
    }
}
