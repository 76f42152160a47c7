/** Terms, A TICK, points 1 to 4: a test for each sentence that names an edge. */
public final class TickEdgesTest {
    private static void wheelIs(String when, LampChanger x, int front, int aim, int toGo, int burns) {
        Due.due(when + ", front", x.wheel(0), front);
        Due.due(when + ", aim", x.wheel(1), aim);
        Due.due(when + ", ticks to go", x.wheel(2), toGo);
        Due.due(when + ", burns", x.wheel(3), burns);
    }

    private static void oneTickLessToGo() {
        Due.sentence("If the wheel turns, it has one tick less to go");
        LampChanger x = new LampChanger();
        x.pass(8);
        Due.due("turnTo(5)", x.turnTo(5), 10);
        for (int toGo = 9; toGo >= 1; toGo--) {
            x.pass(1);
            wheelIs("tick " + (17 - toGo), x, 0, 5, toGo, 0);
        }
    }

    private static void theAimAtTheFront() {
        Due.sentence("when it has none, it is still, and its aim is at the front");
        LampChanger x = Beacons.byDay();
        x.turnTo(5);
        x.pass(9);
        wheelIs("one to go", x, 0, 5, 1, 0);
        x.pass(1);
        wheelIs("none to go", x, 5, Due.NONE, 0, 0);
        x.pass(1);
        wheelIs("a tick later", x, 5, Due.NONE, 0, 0);
    }

    private static void alsoJustNowInTheNight() {
        Due.sentence("If the wheel is still (also just now), and it is night");
        LampChanger x = new LampChanger();
        x.putIn(3, 0, 100);
        x.turnTo(3);
        Due.due("dark while it turns", x.pass(5), 5);
        Due.due("lit as soon as it is still", x.pass(1), 0);
        Due.due("wear", x.lamp(3, 2), 11);
        LampChanger y = new LampChanger();
        y.putIn(0, 0, 100);
        y.turnTo(3);
        Due.due("dark while it turns, and as it turns on", y.pass(6), 6);
        wheelIs("on from an empty socket", y, 3, 0, 6, 0);
        Due.eventIs("on from an empty socket", y, 0, 2, 0, 5);
    }

    private static void noLampAtTheFrontInTheNight() {
        Due.sentence("if there is no lamp at the front, or it is burnt out: if there is a next socket other "
                + "than the front, the wheel turns to it from now on");
        LampChanger x = new LampChanger();
        x.putIn(1, 0, 100);
        Due.due("dark as it begins to turn", x.pass(1), 1);
        wheelIs("no lamp at the front", x, 0, 1, 2, 0);
        Due.eventIs("no lamp at the front", x, 0, 2, 1, 0);
        LampChanger y = Beacons.burntOut();
        y.putIn(5, 0, 100);
        Due.due("dark as it begins to turn", y.pass(1), 1);
        wheelIs("a burnt out one at the front", y, 0, 5, 10, 0);
        Due.eventIs("a burnt out one at the front", y, 0, 2, 5, 91);
    }

    private static void noNextSocketInTheNight() {
        Due.sentence("if there is a next socket other than the front");
        LampChanger x = new LampChanger();
        Due.due("no lamp at all", x.pass(3), 3);
        wheelIs("no lamp at all", x, 0, Due.NONE, 0, 0);
        Due.due("no event", x.event(0, 0), Due.NONE);
        LampChanger y = Beacons.burntOut();
        Due.due("a burnt out one alone", y.pass(3), 3);
        wheelIs("a burnt out one alone", y, 0, Due.NONE, 0, 0);
        Due.due("no event of turning", y.event(0, 0), 0);
        LampChanger z = new LampChanger();
        z.putIn(0, 0, 100);
        z.putIn(1, 0, 100);
        Due.due("a lamp at the front that burns", z.pass(3), 0);
        wheelIs("a lamp at the front that burns", z, 0, Due.NONE, 0, 1);
    }

    private static void aTiredOneStaysInTheNight() {
        Due.sentence("otherwise, if the lamp does not burn, it is switched on");
        LampChanger x = Beacons.quicklyTired();
        x.putIn(0, 2, 50);
        x.putIn(1, 2, 50);
        x.pass(1);
        Due.due("tired", x.lamp(0, 5), 1);
        Due.due("lit", x.pass(5), 0);
        wheelIs("a tired one at the front", x, 0, Due.NONE, 0, 1);
        x.takeOut(1);
        x.pass(30);
        Due.due("wear of the first night", x.lamp(0, 2), 5 + 12);
        x.pass(1);
        Due.due("the tired one is switched on in the next night", x.lamp(0, 2), 5 + 12 + 5 + 1);
    }

    private static void switchedOnOnce() {
        Due.sentence("if the lamp does not burn, it is switched on: its wear grows by that of switching on");
        int[] byKind = {10, 15, 5};
        for (int kind = 0; kind <= 2; kind++) {
            LampChanger x = new LampChanger();
            x.putIn(0, kind, 100);
            x.pass(37);
            int wear = 2 * byKind[kind] + 13;
            Due.due("the first night and a tick, kind " + kind, x.lamp(0, 2), wear);
            x.pass(10);
            x.pass(1);
            x.pass(1);
            Due.due("on across midnight, kind " + kind, x.lamp(0, 2), wear + 12);
            x.set(2, 1);
            x.turnTo(1);
            Due.due("turned away and back, kind " + kind, x.pass(5), 5);
            Due.due("not on while it is away, kind " + kind, x.lamp(0, 2), wear + 12);
            x.pass(1);
            Due.due("switched on again, kind " + kind, x.lamp(0, 2), wear + 12 + byKind[kind] + 1);
        }
    }

    private static void burntOutBySwitchingOn() {
        Due.sentence("If it is not burnt out by that, it burns in this tick");
        int[] before = {93, 94, 95, 96};
        int[] behind = {99, 100, 100, 101};
        int[] dark = {0, 0, 1, 1};
        int[] burns = {1, 0, 0, 0};
        for (int i = 0; i < before.length; i++) {
            LampChanger x = Beacons.worn(before[i]);
            Due.due("dark, from " + before[i], x.pass(1), dark[i]);
            Due.due("wear, from " + before[i], x.lamp(0, 2), behind[i]);
            Due.due("burns, from " + before[i], x.wheel(3), burns[i]);
            if (burns[i] == 0) {
                Due.eventIs("from " + before[i], x, 0, 0, 0, 96);
            } else {
                Due.due("no event", x.event(0, 0), Due.NONE);
            }
        }
    }

    private static void theLimitItselfIsNotBelow() {
        Due.sentence("if 100 times it is less than the limit times the nominal one");
        for (int limit = 76; limit <= 80; limit++) {
            // 700 * wear / 400 is 7 for each percent less
            LampChanger x = Beacons.worn(4 * (100 - limit) - 6);
            x.set(0, limit);
            x.pass(1);
            Due.due("current at the limit", x.lamp(0, 4), 7 * limit);
            Due.due("not below " + limit, x.lamp(0, 7), 0);
            x.pass(1);
            Due.due("current below the limit", x.lamp(0, 4), 7 * limit - 1);
            Due.due("below " + limit, x.lamp(0, 7), 1);
        }
    }

    private static void theCurrentIsRounded() {
        Due.sentence("All quotients are rounded down");
        LampChanger x = Beacons.quicklyTired();
        x.putIn(0, 0, 100);
        // 1000 less 1000 * wear / 1600: less 10 by a wear of 16 and of 17, less 11 by one of 18
        x.pass(6);
        int[] currents = {990, 990, 989};
        for (int i = 0; i < currents.length; i++) {
            Due.due("wear", x.lamp(0, 2), 16 + i);
            Due.due("current", x.lamp(0, 4), currents[i]);
            Due.due("tired", x.lamp(0, 5), currents[i] < 990 ? 1 : 0);
            x.pass(1);
        }
    }

    private static void asManyTicksAsThePatience() {
        Due.sentence("if it is so for as many ticks as the patience, or more, one behind the other, it is tired");
        for (int patience = 1; patience <= 5; patience++) {
            LampChanger x = Beacons.quicklyTired();
            x.set(1, patience);
            x.putIn(0, 2, 50);
            for (int tick = 1; tick <= 7; tick++) {
                x.pass(1);
                Due.due("below, patience " + patience, x.lamp(0, 7), tick);
                Due.due("tired, patience " + patience, x.lamp(0, 5), tick >= patience ? 1 : 0);
            }
            Due.eventIs("patience " + patience, x, 0, 1, 0, patience - 1);
            Due.due("one event alone", x.count(9), 1);
        }
    }

    private static void moreTicksThanThePatience() {
        Due.sentence("as many ticks as the patience, or more");
        LampChanger x = Beacons.quicklyTired();
        x.set(1, 5);
        x.putIn(0, 2, 50);
        x.pass(4);
        x.set(1, 1);
        Due.due("not without a tick", x.lamp(0, 5), 0);
        x.pass(1);
        Due.due("five of one", x.lamp(0, 7), 5);
        Due.due("tired", x.lamp(0, 5), 1);
        Due.eventIs("five of one", x, 0, 1, 0, 4);
    }

    private static void otherwiseForNone() {
        Due.sentence("the lamp was below the limit for one more tick, otherwise for none");
        LampChanger x = Beacons.quicklyTired();
        x.set(1, 4);
        x.putIn(0, 2, 50);
        x.pass(3);
        Due.due("three below", x.lamp(0, 7), 3);
        x.set(0, 75);
        Due.due("no tick, still three", x.lamp(0, 7), 3);
        x.pass(1);
        Due.due("none", x.lamp(0, 7), 0);
        x.set(0, 99);
        x.pass(3);
        Due.due("three anew", x.lamp(0, 7), 3);
        Due.due("not one behind the other", x.lamp(0, 5), 0);
        x.pass(1);
        Due.due("tired", x.lamp(0, 5), 1);
    }

    private static void ticksInWhichItDoesNotBurn() {
        Due.sentence("(Ticks in which it does not burn do not matter.)");
        LampChanger x = Beacons.quicklyTired();
        x.set(1, 5);
        x.set(2, 1);
        x.setNight(0, 2);
        x.putIn(0, 2, 50);
        x.pass(2);
        Due.due("below", x.lamp(0, 7), 2);
        x.pass(46);
        Due.due("by day", x.lamp(0, 7), 2);
        x.turnTo(1);
        Due.due("it is away in the second night", x.pass(2), 2);
        Due.due("while the wheel turns", x.lamp(0, 7), 2);
        x.pass(46);
        x.pass(2);
        Due.due("in the third night", x.lamp(0, 7), 4);
        Due.due("not tired", x.lamp(0, 5), 0);
        x.pass(47);
        Due.due("tired in the fourth night", x.lamp(0, 5), 1);
        LampChanger y = Beacons.worn(95);
        y.set(0, 99);
        y.pass(1);
        Due.due("not measured as it burns out by switching on", y.lamp(0, 7), 0);
    }

    private static void burntOutByEither() {
        Due.sentence("If it is burnt out by either, it burns no more");
        LampChanger x = Beacons.worn(93);
        x.pass(1);
        Due.due("burns", x.wheel(3), 1);
        Due.due("lit in its last tick", x.pass(1), 0);
        Due.due("burnt out by burning", x.wheel(3), 0);
        Due.eventIs("burnt out by burning", x, 0, 0, 0, 97);
        LampChanger y = Beacons.worn(95);
        y.pass(1);
        Due.due("burnt out by switching on", y.wheel(3), 0);
        Due.due("can be taken out", y.takeOut(0), 100);
    }

    private static void tiredAheadOfBurntOut() {
        Due.sentence("(It is tired, as an event, ahead of being burnt out in the same tick.)");
        LampChanger x = Beacons.worn(94);
        x.set(1, 1);
        Due.due("lit", x.pass(1), 0);
        Due.eventIs("both", x, 0, 0, 0, 96);
        Due.eventIs("both", x, 1, 1, 0, 96);
        Due.due("no third event", x.event(2, 0), Due.NONE);
        Due.due("it is tired", x.lamp(0, 5), 1);
        Due.due("it is burnt out", x.lamp(0, 6), 1);
        Due.due("not counted as tired", x.count(3), 0);
        LampChanger y = Beacons.worn(95);
        y.set(1, 1);
        y.pass(1);
        Due.eventIs("by switching on", y, 0, 0, 0, 96);
        Due.due("not tired by that", y.event(1, 0), Due.NONE);
        Due.due("not tired", y.lamp(0, 5), 0);
    }

    private static void noLampBurnsByDay() {
        Due.sentence("If the wheel is still, and it is not night: no lamp burns");
        LampChanger x = new LampChanger();
        x.putIn(0, 0, 100);
        x.pass(12);
        Due.due("ahead of the first tick by day", x.wheel(3), 1);
        Due.due("not to be taken out yet", x.takeOut(0), Due.NOT_POSSIBLE);
        x.pass(1);
        Due.due("behind it", x.wheel(3), 0);
        Due.due("no wear by day", x.lamp(0, 2), 22);
        x.pass(23);
        Due.due("ahead of the first tick of the night", x.wheel(3), 0);
        Due.due("no wear by day", x.lamp(0, 2), 22);
        x.pass(1);
        Due.due("behind it", x.wheel(3), 1);
    }

    private static LampChanger tiredAtTheFrontByDay() {
        LampChanger x = Beacons.quicklyTired();
        x.putIn(0, 2, 50);
        x.pass(13);
        Due.due("tired", x.lamp(0, 5), 1);
        return x;
    }

    private static LampChanger burntOutAtTheFrontByDay() {
        LampChanger x = Beacons.burntOut();
        x.setNight(47, 0);
        return x;
    }

    private static void changesByDay() {
        Due.sentence("if there is no lamp at the front, or it is burnt out or tired, and there is a next socket "
                + "whose lamp is neither burnt out nor tired, the wheel turns to it from now on");
        LampChanger empty = Beacons.byDay();
        LampChanger tired = tiredAtTheFrontByDay();
        LampChanger burntOut = burntOutAtTheFrontByDay();
        LampChanger[] each = {empty, tired, burntOut};
        int[] ticks = {13, 13, 91};
        for (int i = 0; i < each.length; i++) {
            LampChanger x = each[i];
            x.pass(1);
            wheelIs("no next one, case " + i, x, 0, Due.NONE, 0, 0);
            x.putIn(5, 2, 50);
            Due.due("not dark", x.pass(1), 0);
            wheelIs("case " + i, x, 0, 5, 10, 0);
            Due.eventIs("case " + i, x, 0, 3, 5, ticks[i] + 1);
        }
        LampChanger fresh = Beacons.byDay();
        fresh.putIn(0, 2, 50);
        fresh.putIn(1, 1, 150);
        fresh.pass(3);
        wheelIs("a fresh one at the front", fresh, 0, Due.NONE, 0, 0);
        Due.due("a fresh one at the front, no event", fresh.event(0, 0), Due.NONE);
    }

    private static void noTurnByDayToATiredOne() {
        Due.sentence("a next socket whose lamp is neither burnt out nor tired");
        LampChanger x = Beacons.quicklyTired();
        x.putIn(1, 2, 50);
        x.set(2, 1);
        x.pass(2);
        Due.due("tired in 1", x.lamp(1, 5), 1);
        x.turnTo(0);
        x.setNight(47, 0);
        x.pass(10);
        wheelIs("an empty front, a tired next one", x, 0, Due.NONE, 0, 0);
        Due.due("the next socket all the same", x.wheel(5), 1);
        Due.eventIs("no turn by day", x, 0, 1, 1, 1);
        x.setNight(0, 47);
        x.pass(1);
        wheelIs("in the night", x, 0, 1, 1, 0);
        LampChanger y = tiredAtTheFrontByDay();
        Due.due("the front is its own next one", y.wheel(5), 0);
        y.pass(20);
        wheelIs("a tired front alone", y, 0, Due.NONE, 0, 0);
        Due.eventIs("a tired front alone", y, 0, 1, 0, 0);
    }

    private static void stillJustNowByDay() {
        Due.sentence("If the wheel is still, and it is not night");
        LampChanger x = Beacons.byDay();
        x.turnTo(3);
        x.putIn(4, 0, 100);
        x.pass(5);
        wheelIs("ahead of being still", x, 0, 3, 1, 0);
        x.pass(1);
        wheelIs("onward in the same tick", x, 3, 4, 2, 0);
        Due.eventIs("onward in the same tick", x, 0, 3, 4, 18);
    }

    private static void darkTicks() {
        Due.sentence("If it is night, and no lamp burnt in this tick (one that burns out in this tick by its wear "
                + "of 1 did), the tick is dark");
        Due.due("no lamp, by night", new LampChanger().pass(1), 1);
        Due.due("no lamp, by day", Beacons.byDay().pass(1), 0);
        Due.due("burnt out by its wear of 1", Beacons.worn(94).pass(1), 0);
        Due.due("burnt out by switching on", Beacons.worn(95).pass(1), 1);
        LampChanger x = Beacons.worn(93);
        x.pass(1);
        Due.due("burnt out by its wear of 1, on before", x.pass(1), 0);
        Due.due("burnt out before", x.pass(1), 1);
        LampChanger y = Beacons.byDay();
        y.turnTo(5);
        Due.due("by day while it turns", y.pass(3), 0);
        Due.due("counted", y.count(7), 12);
    }

    public static void main(String[] args) {
        oneTickLessToGo();
        theAimAtTheFront();
        alsoJustNowInTheNight();
        noLampAtTheFrontInTheNight();
        noNextSocketInTheNight();
        aTiredOneStaysInTheNight();
        switchedOnOnce();
        burntOutBySwitchingOn();
        theLimitItselfIsNotBelow();
        theCurrentIsRounded();
        asManyTicksAsThePatience();
        moreTicksThanThePatience();
        otherwiseForNone();
        ticksInWhichItDoesNotBurn();
        burntOutByEither();
        tiredAheadOfBurntOut();
        noLampBurnsByDay();
        changesByDay();
        noTurnByDayToATiredOne();
        stillJustNowByDay();
        darkTicks();
        Due.end();
    }
}
