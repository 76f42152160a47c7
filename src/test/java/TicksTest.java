/** Promise 10 (pass): the arguments, and what happens in a tick. */
public final class TicksTest {
    private static void arguments() {
        LampChanger x = new LampChanger();
        int[] wrong = {0, -1, 201, Integer.MIN_VALUE, Integer.MAX_VALUE};
        for (int w : wrong) {
            Due.due("pass(" + w + ")", x.pass(w), Due.BAD_VALUE);
        }
        Due.due("tick", x.count(0), 0);
        Due.due("states", x.count(12), 0);
        Due.due("pass(1)", x.pass(1), 1);
        Due.due("pass(200)", x.pass(200), 100 + 4);
        Due.due("tick", x.count(0), 201);
        Due.due("states", x.count(12), 2);
    }

    private static void theLastTick() {
        LampChanger x = new LampChanger();
        Due.pass(x, 99800);
        Due.due("pass(200)", x.pass(200), Due.FULL);
        Due.due("pass(201)", x.pass(201), Due.BAD_VALUE);
        Due.due("tick", x.count(0), 99800);
        Due.holds("pass(199)", x.pass(199) >= 0);
        Due.due("tick", x.count(0), 99999);
        Due.due("pass(1)", x.pass(1), Due.FULL);
        Due.due("pass(0)", x.pass(0), Due.BAD_VALUE);
        Due.due("states", x.count(12), 4);
    }

    private static void nightsOfAnEmptyBeacon() {
        LampChanger x = new LampChanger();
        Due.due("to dawn", x.pass(12), 12);
        Due.due("by day", x.pass(24), 0);
        Due.due("dusk and 11 more", x.pass(12), 12);
        Due.due("midnight to dawn", x.pass(13), 12);
        x.setNight(20, 22);
        Due.due("a short night", x.pass(48), 2);
        Due.due("no event", x.event(0, 0), Due.NONE);
    }

    private static void wearByBurningAndSwitchingOn() {
        LampChanger x = new LampChanger();
        x.putIn(0, 0, 100);
        Due.due("pass(1)", x.pass(1), 0);
        Due.due("10 and 1", x.lamp(0, 2), 11);
        Due.due("burns", x.wheel(3), 1);
        x.pass(11);
        Due.due("still burns ahead of the first tick by day", x.wheel(3), 1);
        Due.due("wear", x.lamp(0, 2), 22);
        x.pass(1);
        Due.due("by day", x.wheel(3), 0);
        Due.due("wear by day", x.lamp(0, 2), 22);
        x.pass(24);
        Due.due("switched on again", x.lamp(0, 2), 33);
    }

    private static void tiredByThePatience() {
        LampChanger x = new LampChanger();
        x.setNight(0, 19);
        x.putIn(0, 2, 50);
        x.putIn(2, 2, 150);
        Due.pass(x, 147);
        // 24 by each of three nights, then 5 and 3: the current is 560, just not below the limit
        Due.due("wear", x.lamp(0, 2), 80);
        Due.due("current", x.lamp(0, 4), 560);
        Due.due("not below", x.lamp(0, 7), 0);
        x.pass(1);
        Due.due("current", x.lamp(0, 4), 559);
        Due.due("below", x.lamp(0, 7), 1);
        Due.due("not tired yet", x.lamp(0, 5), 0);
        x.pass(1);
        Due.due("tired", x.lamp(0, 5), 1);
        Due.eventIs("latest events", x, 0, 1, 0, 148);
        Due.due("burns on", x.pass(14), 0);
        Due.due("one event alone", x.count(9), 1);
        Due.due("below, counted on", x.lamp(0, 7), 16);
        Due.due("wear at dawn", x.lamp(0, 2), 96);
        x.pass(1);
        Due.eventIs("latest events", x, 0, 3, 2, 163);
        Due.due("ticks to go", x.wheel(2), 4);
        x.pass(3);
        Due.due("front", x.wheel(0), 0);
        x.pass(1);
        Due.due("front", x.wheel(0), 2);
    }

    private static void ticksWithoutBurningDoNotMatter() {
        LampChanger x = new LampChanger();
        x.setNight(0, 1);
        x.set(0, 99);
        x.set(1, 3);
        x.putIn(0, 2, 50);
        x.pass(1);
        Due.due("below", x.lamp(0, 7), 1);
        x.pass(48);
        Due.due("below in the next night", x.lamp(0, 7), 2);
        x.pass(47);
        Due.due("not tired by day", x.lamp(0, 5), 0);
        x.pass(1);
        Due.due("tired in the third night", x.lamp(0, 5), 1);
        Due.eventIs("latest events", x, 0, 1, 0, 96);
    }

    private static void aTickAboveTheLimitBeginsAnew() {
        LampChanger x = new LampChanger();
        x.set(0, 99);
        x.set(1, 4);
        x.putIn(0, 2, 50);
        x.pass(3);
        Due.due("below", x.lamp(0, 7), 3);
        x.set(0, 75);
        x.pass(1);
        Due.due("not below", x.lamp(0, 7), 0);
        x.set(0, 99);
        x.pass(3);
        Due.due("not tired", x.lamp(0, 5), 0);
        x.set(1, 2);
        Due.due("no tick, not tired", x.lamp(0, 5), 0);
        x.pass(1);
        Due.due("more ticks than the patience", x.lamp(0, 7), 4);
        Due.due("tired", x.lamp(0, 5), 1);
        x.set(0, 75);
        x.pass(1);
        Due.due("not below", x.lamp(0, 7), 0);
        Due.due("tired it stays", x.lamp(0, 5), 1);
        Due.due("tired once", x.count(9), 1);
    }

    private static void burntOutByATick() {
        LampChanger x = new LampChanger();
        x.setNight(0, 47);
        x.set(0, 75);
        x.set(1, 1);
        x.putIn(0, 2, 50);
        x.putIn(5, 2, 50);
        Due.due("never dark", Due.pass(x, 91), 0);
        Due.due("burnt out", x.lamp(0, 6), 1);
        Due.due("wear", x.lamp(0, 2), 100);
        Due.due("burns no more", x.wheel(3), 0);
        Due.eventIs("latest events", x, 0, 0, 0, 90);
        Due.eventIs("latest events", x, 1, 1, 0, 90);
        Due.due("still", x.wheel(1), Due.NONE);
        Due.due("the wheel begins to turn", x.pass(1), 1);
        Due.eventIs("latest events", x, 0, 2, 5, 91);
        Due.due("aim", x.wheel(1), 5);
        Due.due("ticks to go", x.wheel(2), 10);
        x.pass(4);
        Due.due("front", x.wheel(0), 0);
        Due.due("turning by day too", x.wheel(2), 6);
        Due.due("dark but by the lamp that comes", x.pass(6), 5);
        Due.due("switched on as it comes", x.lamp(5, 2), 6);
        Due.due("dark one behind the other", x.count(8), 9);
        Due.due("events", x.count(9), 3);
    }

    private static void burntOutBySwitchingOn() {
        LampChanger x = new LampChanger();
        x.setNight(0, 19);
        x.putIn(0, 2, 50);
        Due.pass(x, 192);
        Due.due("wear", x.lamp(0, 2), 96);
        Due.due("below", x.lamp(0, 7), 16);
        Due.due("dark in that tick", x.pass(1), 1);
        Due.due("wear, no tick of burning", x.lamp(0, 2), 101);
        Due.due("burnt out", x.lamp(0, 6), 1);
        Due.due("current", x.lamp(0, 4), 0);
        Due.due("not measured", x.lamp(0, 7), 16);
        Due.due("does not burn", x.wheel(3), 0);
        Due.eventIs("latest events", x, 0, 0, 0, 192);
        Due.eventIs("latest events", x, 1, 1, 0, 148);
        Due.due("no next one", x.pass(1), 1);
        Due.due("still", x.wheel(1), Due.NONE);
        Due.due("events", x.count(9), 2);
    }

    private static void theNextOneInTheNight() {
        LampChanger x = Beacons.quicklyTired();
        x.set(2, 1);
        x.putIn(1, 2, 50);
        x.turnTo(1);
        x.pass(1);
        Due.due("tired", x.lamp(1, 5), 1);
        x.putIn(4, 2, 50);
        x.turnTo(0);
        Due.due("dark on the way, and as it turns", x.pass(5), 5);
        Due.eventIs("latest events", x, 0, 2, 4, 5);
        Due.due("a fresh one ahead of a nearer tired one", x.wheel(1), 4);
        Due.due("ticks to go", x.wheel(2), 4);
    }

    private static void aTiredOneInTheNight() {
        LampChanger x = Beacons.quicklyTired();
        x.set(2, 1);
        x.putIn(1, 2, 50);
        x.turnTo(1);
        x.pass(1);
        x.turnTo(0);
        x.pass(5);
        Due.eventIs("latest events", x, 0, 2, 1, 5);
        Due.due("none is fresh: the tired one", x.wheel(1), 1);
        Due.due("lit by it", x.pass(2), 0);
        Due.due("tired once", x.count(9), 2);
    }

    private static void aTiredLampStaysInTheNight() {
        LampChanger x = Beacons.quicklyTired();
        x.putIn(0, 2, 50);
        x.putIn(1, 2, 50);
        Due.due("lit", x.pass(12), 0);
        Due.due("tired", x.lamp(0, 5), 1);
        Due.due("it burns on", x.lamp(0, 2), 17);
        Due.due("still", x.wheel(1), Due.NONE);
        x.pass(1);
        Due.eventIs("latest events", x, 0, 3, 1, 12);
        Due.due("events", x.count(9), 2);
    }

    private static void changesByDay() {
        LampChanger x = Beacons.quicklyTired();
        x.pass(12);
        Due.due("no lamp at all", x.wheel(1), Due.NONE);
        x.putIn(3, 2, 50);
        x.pass(1);
        Due.eventIs("latest events", x, 0, 3, 3, 12);
        Due.due("ticks to go", x.wheel(2), 6);
        x.set(2, 1);
        Due.due("a setting does not change a turn", x.wheel(2), 6);
        x.pass(6);
        Due.due("front", x.wheel(0), 3);
        x.putIn(4, 2, 50);
        x.pass(1);
        Due.due("a fresh one stays", x.wheel(1), Due.NONE);
        x.takeOut(4);
        x.pass(17);
        Due.due("tired", x.lamp(3, 5), 1);
        Due.pass(x, 40);
        Due.due("no fresh one: it stays", x.wheel(1), Due.NONE);
        x.putIn(2, 2, 50);
        x.pass(1);
        Due.due("the whole way round", x.wheel(2), 5);
        Due.eventIs("latest events", x, 0, 3, 2, 77);
    }

    private static void onwardByDayFromWhereItStops() {
        LampChanger x = new LampChanger();
        x.pass(12);
        x.set(2, 1);
        x.putIn(4, 0, 100);
        x.turnTo(2);
        x.pass(1);
        Due.due("front", x.wheel(0), 0);
        x.pass(1);
        Due.due("front", x.wheel(0), 2);
        Due.due("onward in the same tick", x.wheel(1), 4);
        Due.eventIs("latest events", x, 0, 3, 4, 13);
    }

    private static void boatsBringLamps() {
        LampChanger x = new LampChanger();
        x.stock(2, 2);
        x.boat(4, 1, 2);
        x.putIn(1, 0, 60);
        x.pass(4);
        Due.due("none in yet", x.count(1), 1);
        x.pass(1);
        Due.due("lamps", x.count(1), 5);
        int[] kinds = {1, 0, 1, 2, 2, Due.NONE};
        int[] strengths = {100, 60, 100, 100, 100, Due.NONE};
        for (int socket = 0; socket <= 5; socket++) {
            Due.due("kind in " + socket, x.lamp(socket, 0), kinds[socket]);
            Due.due("strength in " + socket, x.lamp(socket, 1), strengths[socket]);
        }
        Due.eventIs("latest events", x, 0, 4, 4, 4);
        Due.due("strong ones left", x.count(5), 0);
        Due.due("small ones left", x.count(6), 0);
        Due.due("boats", x.count(10), 1);
        Due.due("no event of 0 to 3 but the turn", x.count(9), 1);
    }

    private static void aBoatInVain() {
        LampChanger x = new LampChanger();
        x.pass(12);
        for (int socket = 0; socket <= 5; socket++) {
            x.putIn(socket, 0, 100);
        }
        x.boat(12, 2, 3);
        x.pass(1);
        Due.eventIs("latest events", x, 0, 4, 0, 12);
        Due.due("stock", x.count(6), 3);
        x.takeOut(4);
        x.pass(1);
        Due.due("no boat: none is put in", x.count(1), 5);
    }

    private static void boatsTakeABurntOutLampOut() {
        LampChanger x = new LampChanger();
        x.setNight(0, 47);
        x.putIn(0, 2, 50);
        x.boat(90, 1, 1);
        Due.due("lit", Due.pass(x, 91), 0);
        Due.eventIs("latest events", x, 0, 4, 1, 90);
        Due.eventIs("latest events", x, 1, 0, 0, 90);
        Due.eventIs("latest events", x, 2, 1, 0, 72);
        Due.due("a new lamp at the front", x.lamp(0, 3), 700);
        Due.due("it is not on", x.wheel(3), 0);
        Due.due("lit again at once", x.pass(1), 0);
        Due.due("its wear", x.lamp(0, 2), 16);
        Due.due("events", x.count(9), 2);
    }

    private static void aBoatWithoutRoomInTheStockForTheTired() {
        LampChanger x = Beacons.quicklyTired();
        x.set(3, 1);
        x.putIn(0, 2, 50);
        x.pass(13);
        Due.due("tired, by day", x.count(3), 1);
        x.boat(13, 0, 1);
        x.pass(1);
        Due.due("the tired one at the front is taken out", x.lamp(0, 1), 100);
        Due.due("it was not tired before", x.lamp(0, 5), 0);
    }

    private static void boatsOfTheLastTick() {
        LampChanger x = new LampChanger();
        x.boat(0, 0, 1);
        x.boat(9999, 1, 1);
        x.pass(1);
        Due.due("a boat of tick 0", x.count(10), 1);
        Due.pass(x, 9998);
        Due.due("tick", x.count(0), 9999);
        Due.due("boats", x.count(10), 1);
        x.pass(1);
        Due.due("a boat of tick 9999", x.count(10), 2);
        x.undo();
        Due.due("boats after undo", x.count(10), 1);
        x.pass(1);
        Due.due("it comes again", x.count(10), 2);
    }

    public static void main(String[] args) {
        arguments();
        theLastTick();
        nightsOfAnEmptyBeacon();
        wearByBurningAndSwitchingOn();
        tiredByThePatience();
        ticksWithoutBurningDoNotMatter();
        aTickAboveTheLimitBeginsAnew();
        burntOutByATick();
        burntOutBySwitchingOn();
        theNextOneInTheNight();
        aTiredOneInTheNight();
        aTiredLampStaysInTheNight();
        changesByDay();
        onwardByDayFromWhereItStops();
        boatsBringLamps();
        aBoatInVain();
        boatsTakeABurntOutLampOut();
        aBoatWithoutRoomInTheStockForTheTired();
        boatsOfTheLastTick();
        Due.end();
    }
}
