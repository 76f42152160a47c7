/** Terms, A TICK (point 5), EVENTS and BOATS: a test for each sentence that names an edge. */
public final class BoatEdgesTest {
    private static void kindsAre(String when, LampChanger x, int... kinds) {
        for (int socket = 0; socket <= 5; socket++) {
            Due.due(when + ", lamp(" + socket + ", 0)", x.lamp(socket, 0), kinds[socket]);
        }
    }

    private static void stockIs(String when, LampChanger x, int plain, int strong, int small) {
        Due.due(when + ", plain ones", x.count(4), plain);
        Due.due(when + ", strong ones", x.count(5), strong);
        Due.due(when + ", small ones", x.count(6), small);
    }

    /** At tick 13, by day: a wheel full of lamps, so that a boat's lamps stay in the stock. */
    private static LampChanger fullWheel() {
        LampChanger x = Beacons.byDay();
        for (int socket = 0; socket <= 5; socket++) {
            x.putIn(socket, 1, 150);
        }
        return x;
    }

    private static void aBoatInItsTick() {
        Due.sentence("If a boat comes in this tick by the plan, its lamps come to the stock");
        LampChanger x = fullWheel();
        x.boat(15, 2, 6);
        x.pass(2);
        stockIs("the tick before", x, 0, 0, 0);
        Due.due("none came", x.count(10), 0);
        x.pass(1);
        stockIs("its tick", x, 0, 0, 6);
        Due.due("one came", x.count(10), 1);
        Due.eventIs("its tick", x, 0, 4, 0, 15);
        x.pass(1);
        stockIs("the tick behind", x, 0, 0, 6);
        Due.due("no other came", x.count(10), 1);
    }

    private static void noBoatNothing() {
        Due.sentence("If a boat comes in this tick by the plan");
        LampChanger x = Beacons.burntOut();
        x.set(3, 1);
        x.stock(0, 6);
        x.boat(90, 0, 1);
        x.boat(500, 0, 1);
        x.pass(50);
        Due.due("no lamp is put in", x.count(1), 1);
        Due.due("the burnt out one stays", x.count(2), 1);
        stockIs("without a boat", x, 6, 0, 0);
    }

    private static void theStockHas99AtMost() {
        Due.sentence("The stock never has more than 99 of a kind; what a boat brings beyond that is lost");
        int[] before = {92, 93, 94, 98, 99};
        int[] behind = {98, 99, 99, 99, 99};
        for (int kind = 0; kind <= 2; kind++) {
            for (int i = 0; i < before.length; i++) {
                LampChanger x = fullWheel();
                for (int left = before[i]; left > 0; left -= 6) {
                    x.stock(kind, Math.min(left, 6));
                }
                Due.due("before", x.count(4 + kind), before[i]);
                x.boat(13, kind, 6);
                x.pass(1);
                Due.due("6 to " + before[i] + " of kind " + kind, x.count(4 + kind), behind[i]);
                Due.due("the boat came", x.count(10), 1);
            }
        }
    }

    private static void lostAheadOfBeingPutIn() {
        Due.sentence("its lamps come to the stock; then ... are taken out ...; then empty sockets get lamps");
        LampChanger x = Beacons.byDay();
        for (int left = 96; left > 0; left -= 6) {
            x.stock(0, 6);
        }
        x.boat(13, 0, 6);
        x.pass(1);
        Due.due("99, less six that are put in", x.count(4), 93);
        Due.eventIs("six are put in", x, 0, 4, 6, 13);
    }

    private static void burntOutOnesAreTakenOut() {
        Due.sentence("then each lamp that is burnt out (or tired, by the setting 3) is taken out");
        LampChanger x = Beacons.burntOut();
        x.boat(91, 0, 1);
        x.pass(1);
        Due.due("a new one at the front", x.lamp(0, 3), 400);
        Due.eventIs("at the front", x, 0, 4, 1, 91);
        LampChanger y = Beacons.burntOut();
        y.turnTo(3);
        y.boat(92, 0, 1);
        y.pass(2);
        Due.due("a new one while the wheel turns", y.lamp(0, 3), 400);
        Due.due("one lamp", y.count(1), 1);
        LampChanger z = Beacons.worn(94);
        z.boat(96, 1, 1);
        Due.due("lit by the one that burns out", z.pass(1), 0);
        Due.due("it is gone in the same tick", z.lamp(0, 0), 1);
        Due.due("the new one is not switched on", z.lamp(0, 2), 0);
        Due.due("lit by the new one", z.pass(1), 0);
        Due.due("the new one is switched on", z.lamp(0, 2), 16);
    }

    private static LampChanger tiredInTwo(int tiredOnesToo) {
        LampChanger x = Beacons.quicklyTired();
        x.set(3, tiredOnesToo);
        x.set(2, 1);
        x.putIn(0, 2, 50);
        x.putIn(1, 2, 50);
        x.pass(1);
        x.turnTo(1);
        x.pass(1);
        Due.due("tired ones", x.count(3), 2);
        Due.due("the one in 1 burns", x.wheel(3) + x.wheel(0), 2);
        return x;
    }

    private static void tiredOnesByTheSetting() {
        Due.sentence("(or tired, by the setting 3)");
        for (int tiredOnesToo = 0; tiredOnesToo <= 1; tiredOnesToo++) {
            LampChanger x = tiredInTwo(tiredOnesToo);
            x.boat(2, 2, 1);
            x.pass(1);
            Due.due("the one in 0, setting " + tiredOnesToo, x.lamp(0, 1), tiredOnesToo == 1 ? 100 : 50);
            Due.due("lamps, setting " + tiredOnesToo, x.count(1), 3 - tiredOnesToo);
        }
    }

    private static void notTheOneThatBurns() {
        Due.sentence("but not the one that burns");
        LampChanger x = tiredInTwo(1);
        x.boat(2, 0, 6);
        Due.due("lit", x.pass(1), 0);
        kindsAre("the one in 1 stays", x, 0, 2, 0, 0, 0, 0);
        Due.due("it is the old one", x.lamp(1, 1), 50);
        Due.due("it burns on", x.wheel(3), 1);
        LampChanger y = Beacons.quicklyTired();
        y.set(3, 1);
        y.putIn(0, 2, 50);
        y.boat(0, 1, 1);
        y.pass(1);
        Due.due("tired in the tick of the boat, it stays", y.lamp(0, 1), 50);
        LampChanger z = tiredInTwo(1);
        z.turnTo(0);
        z.boat(2, 0, 6);
        z.pass(1);
        kindsAre("while the wheel turns none burns", z, 0, 0, 0, 0, 0, 0);
        LampChanger d = tiredInTwo(1);
        d.setNight(47, 0);
        d.boat(2, 0, 6);
        d.pass(1);
        kindsAre("by day none burns", d, 0, 0, 0, 0, 0, 0);
    }

    private static void emptySocketsFromZeroOn() {
        Due.sentence("then empty sockets, from 0 on, get lamps of the lowest kind in the stock");
        LampChanger x = Beacons.byDay();
        x.stock(1, 1);
        x.stock(2, 1);
        x.putIn(2, 2, 150);
        x.boat(13, 0, 1);
        x.pass(1);
        kindsAre("fewer than sockets", x, 0, 1, 2, 2, Due.NONE, Due.NONE);
        stockIs("fewer than sockets", x, 0, 0, 0);
        Due.eventIs("fewer than sockets", x, 0, 4, 3, 13);
        LampChanger y = Beacons.byDay();
        y.stock(0, 4);
        y.stock(2, 6);
        y.boat(13, 1, 6);
        y.pass(1);
        kindsAre("more than sockets", y, 0, 0, 0, 0, 1, 1);
        stockIs("more than sockets", y, 0, 4, 6);
        Due.eventIs("more than sockets", y, 0, 4, 6, 13);
    }

    private static void withTheStrength100() {
        Due.sentence("with the strength 100");
        int[] lives = {400, 700, 200};
        for (int kind = 0; kind <= 2; kind++) {
            LampChanger x = Beacons.byDay();
            x.boat(13, kind, 1);
            x.pass(1);
            Due.due("strength of kind " + kind, x.lamp(0, 1), 100);
            Due.due("life of kind " + kind, x.lamp(0, 3), lives[kind]);
            Due.due("no second lamp", x.count(1), 1);
        }
    }

    private static void theTickBecomesGreaterBy1() {
        Due.sentence("Then the tick becomes greater by 1");
        LampChanger x = new LampChanger();
        x.boat(0, 0, 1);
        x.boat(1, 0, 1);
        Due.due("dark, the lamp comes behind that", x.pass(1), 1);
        Due.due("tick", x.count(0), 1);
        Due.due("boats", x.count(10), 1);
        Due.due("lit by what came", x.pass(1), 0);
        Due.due("boats", x.count(10), 2);
        Due.eventIs("the second", x, 0, 4, 1, 1);
        Due.eventIs("the first", x, 1, 4, 1, 0);
    }

    private static void theLatestTenEvents() {
        Due.sentence("The latest 10 events are known");
        LampChanger x = fullWheel();
        for (int tick = 13; tick <= 22; tick++) {
            Due.due("the event " + (tick - 13) + " back is not there yet", x.event(tick - 13, 0), Due.NONE);
            x.boat(tick, 0, 1);
            x.pass(1);
            Due.eventIs("the latest", x, 0, 4, 0, tick);
            Due.eventIs("the first", x, tick - 13, 4, 0, 13);
        }
        Due.read(x, "23:0x1,24:0x1,25:0x1");
        for (int tick = 23; tick <= 25; tick++) {
            x.pass(1);
            Due.eventIs("the latest", x, 0, 4, 0, tick);
            Due.eventIs("the tenth", x, 9, 4, 0, tick - 9);
            Due.due("no eleventh", x.event(10, 0), Due.NONE);
        }
    }

    private static void whatAnEventTells() {
        Due.sentence("each with a socket (that of the lamp; the aim; of a boat how many lamps are put in) "
                + "and its tick");
        LampChanger x = Beacons.byDay();
        x.set(0, 75);
        x.set(1, 1);
        x.setNight(0, 47);
        x.putIn(3, 2, 50);
        x.putIn(1, 2, 50);
        x.turnTo(3);
        // at the front at 18; 5 and 29 by 46, 5 and 47 by 94, then 5 and 9: burnt out at 104
        x.pass(100);
        Due.eventIs("by night", x, 0, 2, 1, 105);
        Due.eventIs("burnt out", x, 1, 0, 3, 104);
        Due.eventIs("tired", x, 2, 1, 3, 104);
        x.boat(113, 0, 6);
        x.pass(1);
        Due.eventIs("boat", x, 0, 4, 5, 113);
        x.takeOut(1);
        x.setNight(47, 0);
        x.pass(1);
        x.takeOut(1);
        x.pass(1);
        Due.eventIs("by day", x, 0, 3, 2, 115);
    }

    private static void atMostTenBoats() {
        Due.sentence("The plan has at most 10 boats");
        LampChanger x = Beacons.tenBoats();
        Due.due("boats", x.count(11), 10);
        Due.due("an eleventh ahead", x.boat(99, 0, 1), Due.FULL);
        Due.due("an eleventh behind", x.boat(110, 0, 1), Due.FULL);
        Due.due("boats", x.count(11), 10);
        Due.due("the last place", x.planned(9, 0), 109);
        Due.due("no place behind it", x.planned(10, 0), Due.NONE);
    }

    private static void ticksOfBoats() {
        Due.sentence("each with a tick (0 to 9999), a kind and how many lamps it brings (1 to 6)");
        LampChanger x = new LampChanger();
        Due.due("tick -1", x.boat(-1, 0, 1), Due.BAD_VALUE);
        Due.due("tick 10000", x.boat(10000, 0, 1), Due.BAD_VALUE);
        Due.due("none", x.boat(5, 0, 0), Due.BAD_VALUE);
        Due.due("seven", x.boat(5, 0, 7), Due.BAD_VALUE);
        Due.due("tick 0", x.boat(0, 0, 1), 1);
        Due.due("tick 9999", x.boat(9999, 0, 6), 2);
        Due.due("planned(0, 0)", x.planned(0, 0), 0);
        Due.due("planned(0, 2)", x.planned(0, 2), 1);
        Due.due("planned(1, 0)", x.planned(1, 0), 9999);
        Due.due("planned(1, 2)", x.planned(1, 2), 6);
    }

    private static void theFirstAndTheLastTickOfBoats() {
        Due.sentence("each with a tick (0 to 9999)");
        LampChanger x = new LampChanger();
        x.boat(0, 0, 1);
        x.boat(9999, 1, 1);
        x.pass(1);
        Due.due("a boat of tick 0", x.count(10), 1);
        Due.pass(x, 9998);
        Due.due("ahead of the last", x.count(10), 1);
        x.pass(1);
        Due.due("a boat of tick 9999", x.count(10), 2);
        x.pass(200);
        Due.due("none behind it", x.count(10), 2);
    }

    private static void atMostOneBoatInATick() {
        Due.sentence("at most one boat comes in a tick");
        LampChanger x = fullWheel();
        Due.due("boat", x.boat(13, 0, 5), 1);
        Due.due("another of the tick", x.boat(13, 1, 2), 1);
        x.pass(1);
        Due.due("one came", x.count(10), 1);
        stockIs("the other one", x, 0, 2, 0);
        Due.due("one event", x.event(1, 0), Due.NONE);
    }

    private static void oneThatCameStays() {
        Due.sentence("One that came stays in the plan");
        LampChanger x = Beacons.tenBoats();
        x.pass(150);
        Due.due("all came", x.count(10), 10);
        Due.due("boats of the plan", x.count(11), 10);
        Due.due("planned(0, 0)", x.planned(0, 0), 100);
        Due.due("no room for another", x.boat(160, 0, 1), Due.FULL);
        Due.due("one that came can be replaced", x.boat(100, 0, 1), 10);
        x.pass(10);
        Due.due("it does not come again", x.count(10), 10);
    }

    public static void main(String[] args) {
        aBoatInItsTick();
        noBoatNothing();
        theStockHas99AtMost();
        lostAheadOfBeingPutIn();
        burntOutOnesAreTakenOut();
        tiredOnesByTheSetting();
        notTheOneThatBurns();
        emptySocketsFromZeroOn();
        withTheStrength100();
        theTickBecomesGreaterBy1();
        theLatestTenEvents();
        whatAnEventTells();
        atMostTenBoats();
        ticksOfBoats();
        theFirstAndTheLastTickOfBoats();
        atMostOneBoatInATick();
        oneThatCameStays();
        Due.end();
    }
}
