/** Promises 17 (wheel), 18 (tiredIn), 19 (darkIn) and 20 (ranked). */
public final class ToldTest {
    private static void wheelIs(LampChanger x, int... due) {
        for (int what = 0; what <= 7; what++) {
            Due.due("wheel(" + what + ")", x.wheel(what), due[what]);
        }
    }

    private static void promise17Wheel() {
        LampChanger x = new LampChanger();
        int[] wrong = {-1, 8, Integer.MIN_VALUE, Integer.MAX_VALUE};
        for (int w : wrong) {
            Due.due("wheel(" + w + ")", x.wheel(w), Due.BAD_VALUE);
        }
        wheelIs(x, 0, Due.NONE, 0, 0, 1, Due.NONE, 36, 12);
        x.putIn(2, 0, 100);
        wheelIs(x, 0, Due.NONE, 0, 0, 1, 2, 36, 12);
        x.pass(1);
        wheelIs(x, 0, 2, 4, 0, 1, 2, 36, 12);
        x.pass(3);
        wheelIs(x, 0, 2, 1, 0, 1, 2, 36, 12);
        x.pass(1);
        wheelIs(x, 2, Due.NONE, 0, 1, 1, 2, 36, 12);
        x.pass(7);
        wheelIs(x, 2, Due.NONE, 0, 1, 0, 2, 36, 12);
        x.pass(1);
        wheelIs(x, 2, Due.NONE, 0, 0, 0, 2, 36, 12);
        Due.due("states", x.count(12), 4);
    }

    private static void promise17TheNight() {
        LampChanger x = new LampChanger();
        for (int tick = 0; tick < 100; tick++) {
            int place = tick % 48;
            Due.due("night at tick " + tick, x.wheel(4), place >= 36 || place < 12 ? 1 : 0);
            x.pass(1);
        }
        LampChanger y = new LampChanger();
        y.setNight(10, 15);
        for (int tick = 0; tick < 60; tick++) {
            int place = tick % 48;
            Due.due("night at tick " + tick, y.wheel(4), place >= 10 && place < 15 ? 1 : 0);
            y.pass(1);
        }
    }

    private static void promise17TheNextSocket() {
        LampChanger x = Beacons.quicklyTired();
        x.putIn(0, 2, 50);
        Due.due("the front is the last that is looked at", x.wheel(5), 0);
        x.putIn(5, 2, 50);
        Due.due("forward", x.wheel(5), 5);
        x.putIn(3, 2, 50);
        Due.due("the first one forward", x.wheel(5), 3);
        x.pass(1);
        Due.due("tired", x.lamp(0, 5), 1);
        x.takeOut(3);
        x.takeOut(5);
        Due.due("a tired one where no other is", x.wheel(5), 0);
        x.putIn(4, 2, 50);
        x.turnTo(4);
        x.pass(9);
        Due.due("both tired, the first forward", x.wheel(5), 0);
        x.putIn(4, 0, 100);
        x.putIn(3, 2, 50);
        Due.due("a fresh one ahead of nearer tired ones", x.wheel(5), 3);
    }

    private static void promise17BurntOutOnesAreNoNext() {
        LampChanger x = new LampChanger();
        x.setNight(0, 47);
        x.putIn(0, 2, 50);
        Due.pass(x, 91);
        Due.due("burnt out", x.lamp(0, 6), 1);
        Due.due("no next", x.wheel(5), Due.NONE);
        x.putIn(2, 0, 100);
        Due.due("next", x.wheel(5), 2);
    }

    private static void promise18TiredIn() {
        LampChanger x = new LampChanger();
        int[] sockets = {-1, 6, Integer.MIN_VALUE, Integer.MAX_VALUE};
        for (int socket : sockets) {
            Due.due("tiredIn(" + socket + ")", x.tiredIn(socket), Due.UNKNOWN);
        }
        Due.due("an empty socket", x.tiredIn(1), Due.NOT_POSSIBLE);
        x.putIn(1, 2, 50);
        // a wear of 81 is the first with a current below 560
        Due.due("a new one", x.tiredIn(1), 82);
        x.set(1, 1);
        Due.due("patience 1", x.tiredIn(1), 81);
        x.set(1, 5);
        Due.due("patience 5", x.tiredIn(1), 85);
        x.set(0, 99);
        Due.due("limit 99", x.tiredIn(1), 9);
        x.set(0, 76);
        // 700 * 97 / 400 is 169, so the current is 531, below 532, from a wear of 97 on
        Due.due("limit 76: four ticks below, one too few", x.tiredIn(1), Due.NONE);
        x.set(1, 4);
        Due.due("limit 76 and patience 4", x.tiredIn(1), 100);
        x.set(0, 75);
        Due.due("limit 75: it burns out ahead", x.tiredIn(1), Due.NONE);
        x.set(1, 1);
        Due.due("tired in the tick in which it burns out", x.tiredIn(1), 100);
        x.set(1, 2);
        Due.due("one tick too late", x.tiredIn(1), Due.NONE);
        Due.due("nothing has changed", x.lamp(1, 2), 0);
    }

    private static void promise18FromWhereItIs() {
        LampChanger x = new LampChanger();
        x.set(0, 99);
        x.set(1, 5);
        x.putIn(0, 2, 50);
        x.pass(2);
        Due.due("below", x.lamp(0, 7), 2);
        Due.due("three more", x.tiredIn(0), 3);
        x.set(1, 1);
        Due.due("it is so already, but is not tired", x.tiredIn(0), 1);
        x.pass(1);
        Due.due("tired", x.tiredIn(0), 0);
        x.set(0, 75);
        Due.due("tired it stays", x.tiredIn(0), 0);
    }

    private static void promise18BurntOut() {
        LampChanger x = new LampChanger();
        x.setNight(0, 47);
        x.putIn(0, 2, 50);
        Due.pass(x, 90);
        Due.due("tired", x.tiredIn(0), 0);
        x.pass(1);
        Due.due("tired and burnt out", x.lamp(0, 5) + x.lamp(0, 6), 2);
        Due.due("an error goes ahead", x.tiredIn(0), Due.NOT_POSSIBLE);
    }

    private static void promise19DarkIn() {
        LampChanger x = new LampChanger();
        Due.due("in the night", x.darkIn(), 0);
        x.pass(12);
        Due.due("by day", x.darkIn(), 24);
        x.putIn(0, 2, 50);
        Due.due("states, nothing has changed", x.count(12), 2);
        // 29 in the first night, to 58 in the second, to 87 in the third; burnt out in the 4th by 8 ticks
        int due = 24 + 3 * 48 + 8;
        Due.due("with a lamp", x.darkIn(), due);
        Due.due("tick, nothing has changed", x.count(0), 12);
        Due.due("so it is", Due.pass(x, due), 0);
        Due.due("dark", x.pass(1), 1);
    }

    private static void promise19NoBoatsCome() {
        LampChanger x = new LampChanger();
        x.pass(12);
        x.boat(20, 0, 6);
        Due.due("without the boat", x.darkIn(), 24);
        Due.due("with the boat", x.pass(40), 0);
        Due.due("no boat is left", x.count(10), 1);
        x.undo();
        x.stock(0, 3);
        Due.due("no stock comes in without a boat", x.darkIn(), 24);
    }

    private static void promise19HowFarItLooks() {
        LampChanger x = new LampChanger();
        x.pass(1);
        x.setNight(0, 1);
        for (int socket = 0; socket <= 5; socket++) {
            x.putIn(socket, 1, 150);
        }
        Due.due("none is dark", x.darkIn(), Due.NONE);
        for (int socket = 1; socket <= 5; socket++) {
            x.takeOut(socket);
        }
        Due.due("none is dark with one lamp", x.darkIn(), Due.NONE);
    }

    private static void promise19TheLastTickThatIsLookedAt() {
        LampChanger x = new LampChanger();
        x.pass(1);
        x.setNight(0, 1);
        x.putIn(0, 1, 150);
        // a wear of 16 a night, 1040 of 1050 by 65 nights: as it is switched on in the 66th, it burns out
        int dark = 66 * 48;
        Due.pass(x, dark - 3001 - 1);
        Due.due("3001 ticks pass ahead of it", x.darkIn(), Due.NONE);
        x.pass(1);
        Due.due("3000 ticks pass ahead of it", x.darkIn(), 3000);
        x.pass(1);
        Due.due("2999 ticks pass ahead of it", x.darkIn(), 2999);
    }

    private static void promise19BehindTheLastTick() {
        LampChanger x = new LampChanger();
        x.setNight(0, 1);
        x.putIn(0, 0, 50);
        Due.pass(x, 99999);
        Due.due("tick", x.count(0), 99999);
        int place = 99999 % 48;
        Due.due("looked at all the same", x.darkIn(), 48 - place);
    }

    private static void promise20Ranked() {
        LampChanger x = new LampChanger();
        Due.due("no lamp", x.ranked(0), Due.NONE);
        Due.due("ranked(-1)", x.ranked(-1), Due.BAD_VALUE);
        Due.due("ranked(min)", x.ranked(Integer.MIN_VALUE), Due.BAD_VALUE);
        Due.due("ranked(max)", x.ranked(Integer.MAX_VALUE), Due.NONE);
        x.putIn(5, 0, 50);
        x.putIn(1, 2, 100);
        x.putIn(3, 1, 100);
        x.putIn(0, 0, 50);
        x.putIn(4, 2, 50);
        int[] due = {3, 0, 1, 5, 4, Due.NONE, Due.NONE};
        for (int rank = 0; rank < due.length; rank++) {
            Due.due("ranked(" + rank + ")", x.ranked(rank), due[rank]);
        }
        x.pass(1);
        Due.due("a worn one is behind", x.ranked(1), 1);
        Due.due("a worn one is behind", x.ranked(3), 0);
        Due.due("states", x.count(12), 4);
    }

    private static void promise20BurntOutOnesHaveNoRank() {
        LampChanger x = new LampChanger();
        x.setNight(0, 47);
        x.putIn(0, 2, 50);
        x.putIn(1, 2, 50);
        Due.pass(x, 90);
        Due.due("a tired one has a rank", x.ranked(1), 0);
        x.pass(1);
        Due.due("ranked(0)", x.ranked(0), 1);
        Due.due("ranked(1)", x.ranked(1), Due.NONE);
    }

    public static void main(String[] args) {
        promise17Wheel();
        promise17TheNight();
        promise17TheNextSocket();
        promise17BurntOutOnesAreNoNext();
        promise18TiredIn();
        promise18FromWhereItIs();
        promise18BurntOut();
        promise19DarkIn();
        promise19NoBoatsCome();
        promise19HowFarItLooks();
        promise19TheLastTickThatIsLookedAt();
        promise19BehindTheLastTick();
        promise20Ranked();
        promise20BurntOutOnesHaveNoRank();
        Due.end();
    }
}
