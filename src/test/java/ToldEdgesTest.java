/** Promises 4 to 8 and 16 to 23: a test for each sentence that names an edge of what is answered or told. */
public final class ToldEdgesTest {
    private static void tellsIts(LampChanger x, String when, int... due) {
        for (int what = 0; what < due.length; what++) {
            Due.due(when + ", lamp(0, " + what + ")", x.lamp(0, what), due[what]);
        }
        Due.due(when + ", behind the last number", x.lamp(0, due.length), Due.BAD_VALUE);
    }

    private static void promise5TheWear() {
        Due.sentence("Returns its wear");
        LampChanger x = Beacons.worn(99);
        Due.due("worn", x.takeOut(0), 99);
        x.putIn(0, 2, 50);
        Due.due("new", x.takeOut(0), 0);
        LampChanger y = Beacons.worn(99);
        y.pass(1);
        Due.due("worn beyond its life", y.takeOut(0), 104);
    }

    private static void promise5ItBurnsUntilATickByDay() {
        Due.sentence("NOT_POSSIBLE if there is none, or it burns");
        LampChanger x = new LampChanger();
        x.putIn(0, 0, 100);
        Due.due("not on yet", x.takeOut(0), 0);
        x.putIn(0, 0, 100);
        x.putIn(1, 0, 100);
        x.pass(1);
        Due.due("it burns", x.takeOut(0), Due.NOT_POSSIBLE);
        Due.due("another one does not", x.takeOut(1), 0);
        x.setNight(47, 0);
        Due.due("it burns until a tick comes by day", x.takeOut(0), Due.NOT_POSSIBLE);
        x.pass(1);
        Due.due("it does not burn", x.takeOut(0), 11);
    }

    private static void promise6ALampThatBurnsGoesOut() {
        Due.sentence("a lamp that burns goes out. (This is no event.)");
        LampChanger x = new LampChanger();
        x.putIn(0, 0, 100);
        x.pass(1);
        Due.due("turnTo(1)", x.turnTo(1), 2);
        Due.due("burns", x.wheel(3), 0);
        Due.due("no event", x.event(0, 0), Due.NONE);
        Due.due("no event counted", x.count(9), 0);
        Due.due("it can be taken out", x.takeOut(0), 11);
    }

    private static void promise7ToTheLastOne() {
        Due.sentence("Returns how many lamps of the kind there are then; FULL if there would be more than 99");
        for (int kind = 0; kind <= 2; kind++) {
            LampChanger x = new LampChanger();
            for (int i = 1; i <= 98; i++) {
                Due.due("stock", x.stock(kind, 1), i);
            }
            Due.due("98 and 2", x.stock(kind, 2), Due.FULL);
            Due.due("98 and 1", x.stock(kind, 1), 99);
            Due.due("99 and 1", x.stock(kind, 1), Due.FULL);
            Due.due("count", x.count(4 + kind), 99);
            Due.due("the next kind", x.count(4 + (kind + 1) % 3), 0);
        }
    }

    private static void promise8TheSameTick() {
        Due.sentence("one with the same tick is replaced");
        LampChanger x = Beacons.tenBoats();
        for (int place = 0; place <= 9; place++) {
            Due.due("boats", x.boat(100 + place, 2, 6), 10);
            Due.due("its kind", x.planned(place, 1), 2);
            Due.due("its lamps", x.planned(place, 2), 6);
        }
        Due.due("states", x.count(12), 4);
    }

    private static void promise16TheNumbers() {
        Due.sentence("what: 0 for the kind ... 7 for the ticks, one behind the other, for which it was below "
                + "the limit");
        LampChanger x = new LampChanger();
        x.putIn(0, 1, 150);
        tellsIts(x, "new", 1, 150, 0, 1050, 1400, 0, 0, 0);
        LampChanger y = Beacons.worn(70);
        y.set(0, 99);
        y.pass(5);
        // 5 and 5 more: 700 less 700 * 80 / 400
        tellsIts(y, "tired", 2, 50, 80, 100, 560, 1, 0, 5);
        LampChanger z = Beacons.worn(99);
        z.pass(1);
        tellsIts(z, "burnt out", 2, 50, 104, 100, 0, 0, 1, 0);
    }

    private static void promise17WhileItTurns() {
        Due.sentence("1 for the aim of the wheel (NONE if it is still), 2 for the ticks that it has to go "
                + "(0 if it is still)");
        LampChanger x = new LampChanger();
        x.turnTo(1);
        x.pass(2);
        Due.due("still at 1", x.wheel(1), Due.NONE);
        Due.due("still at 1", x.wheel(2), 0);
        x.set(2, 5);
        x.turnTo(0);
        Due.due("to socket 0", x.wheel(1), 0);
        Due.due("ticks to go", x.wheel(2), 25);
        x.set(2, 1);
        Due.due("ticks to go, as it was turned", x.wheel(2), 25);
    }

    private static void promise17TheNextSocketWhileItTurns() {
        Due.sentence("5 for the next socket (NONE without one)");
        LampChanger x = new LampChanger();
        Due.due("none", x.wheel(5), Due.NONE);
        x.putIn(1, 0, 100);
        x.putIn(4, 0, 100);
        x.turnTo(2);
        Due.due("from the front, not from the aim", x.wheel(5), 1);
        x.pass(4);
        Due.due("from the new front", x.wheel(5), 4);
    }

    private static void promise17ThePresentTick() {
        Due.sentence("4 for whether the present tick is in the night");
        LampChanger x = new LampChanger();
        x.pass(11);
        Due.due("the last tick of the night", x.wheel(4), 1);
        x.pass(1);
        Due.due("dawn", x.wheel(4), 0);
        x.setNight(12, 11);
        Due.due("at once by another night", x.wheel(4), 1);
        x.pass(47);
        Due.due("dawn of that", x.wheel(4), 0);
    }

    private static void promise18TheTicks() {
        Due.sentence("Tells in how many ticks of burning a lamp would come to be tired");
        for (int patience = 1; patience <= 5; patience++) {
            LampChanger x = Beacons.quicklyTired();
            x.set(1, patience);
            x.putIn(0, 2, 50);
            x.pass(1);
            int told = x.tiredIn(0);
            Due.due("behind a tick below the limit, patience " + patience, told, patience - 1);
            if (told > 0) {
                x.pass(told);
                Due.due("tired as told", x.event(0, 2), told);
            }
            Due.due("tired", x.lamp(0, 5), 1);
        }
    }

    private static void promise18NotSwitchedOnAgain() {
        Due.sentence("if it burned without a pause from now on (it is not switched on again)");
        LampChanger x = Beacons.worn(70);
        x.set(0, 80);
        x.set(1, 1);
        Due.due("11 more to a wear of 81, by day and not on", x.tiredIn(0), 11);
        x.set(1, 3);
        Due.due("two more", x.tiredIn(0), 13);
        LampChanger y = new LampChanger();
        y.putIn(5, 2, 50);
        Due.due("one that is not at the front", y.tiredIn(5), 82);
    }

    private static void promise18TiredAlready() {
        Due.sentence("0 if it is tired already");
        LampChanger x = Beacons.quicklyTired();
        x.putIn(0, 2, 50);
        x.pass(1);
        Due.due("tired", x.tiredIn(0), 0);
        x.set(0, 75);
        x.set(1, 5);
        Due.due("tired it stays", x.tiredIn(0), 0);
    }

    private static void promise18MoreThanThePatience() {
        Due.sentence("as many ticks as the patience, or more");
        LampChanger x = Beacons.quicklyTired();
        x.set(1, 5);
        x.putIn(0, 2, 50);
        x.pass(4);
        Due.due("four of five", x.tiredIn(0), 1);
        x.set(1, 1);
        Due.due("four of one: a tick is needed all the same", x.tiredIn(0), 1);
        x.set(0, 75);
        Due.due("none of one: it is tired as it burns out", x.tiredIn(0), 100 - 9);
    }

    private static void promise18BurntOutAhead() {
        Due.sentence("NONE if it would burn out ahead of that");
        LampChanger x = Beacons.worn(90);
        x.set(1, 1);
        Due.due("tired in the tick in which it burns out", x.tiredIn(0), 10);
        x.set(1, 2);
        Due.due("it would be tired a tick behind that", x.tiredIn(0), Due.NONE);
        x.set(0, 76);
        // below 532 from a wear of 97 on: 97, 98, 99 and 100
        int[] due = {7, 8, 9, 10, Due.NONE};
        for (int patience = 1; patience <= 5; patience++) {
            x.set(1, patience);
            Due.due("patience " + patience, x.tiredIn(0), due[patience - 1]);
        }
        LampChanger y = Beacons.worn(99);
        Due.due("one tick left, patience 5", y.tiredIn(0), Due.NONE);
        y.set(1, 1);
        Due.due("one tick left, patience 1", y.tiredIn(0), 1);
    }

    private static void promise18BurntOut() {
        Due.sentence("NOT_POSSIBLE if the socket is empty, or the lamp is burnt out");
        LampChanger x = Beacons.worn(99);
        x.pass(1);
        Due.due("burnt out, not tired", x.tiredIn(0), Due.NOT_POSSIBLE);
        Due.due("burnt out and tired", Beacons.burntOut().tiredIn(0), Due.NOT_POSSIBLE);
        x.takeOut(0);
        Due.due("empty", x.tiredIn(0), Due.NOT_POSSIBLE);
    }

    private static void promise19UpTo3000() {
        Due.sentence("Returns how many ticks pass ahead of it, up to 3000 (so 3001 ticks are looked at); "
                + "NONE if none of these is dark");
        // a night of one tick, 16 of a wear each: 1040 of 1050 by 65 nights, burnt out as the 66th begins
        int dark = 66 * 48 + 1;
        int[] ahead = {3002, 3001, 3000, 2999, 1, 0};
        int[] due = {Due.NONE, Due.NONE, 3000, 2999, 1, 0};
        for (int i = 0; i < ahead.length; i++) {
            LampChanger x = new LampChanger();
            x.pass(2);
            x.setNight(1, 2);
            x.putIn(0, 1, 150);
            Due.pass(x, dark - 2 - ahead[i]);
            Due.due("the dark tick comes " + ahead[i] + " ahead", x.darkIn(), due[i]);
            Due.due("none of them is dark, but the last", Due.pass(x, ahead[i] + 1), 1);
        }
    }

    private static void promise19IfOnlyTicksPass() {
        Due.sentence("if only ticks pass and no boats come");
        LampChanger x = new LampChanger();
        x.pass(12);
        x.stock(0, 6);
        x.boat(13, 0, 6);
        Due.due("no boats come", x.darkIn(), 24);
        x.pass(2);
        Due.holds("the boat has come", x.darkIn() > 24);
        LampChanger y = new LampChanger();
        y.putIn(3, 0, 100);
        Due.due("the wheel begins to turn", y.darkIn(), 0);
        y.pass(6);
        Due.due("one tick to go", y.wheel(2), 1);
        int ahead = y.darkIn();
        Due.holds("lit as soon as it is still", ahead > 0);
        Due.due("so it is", Due.pass(y, ahead), 0);
        Due.due("dark then", y.pass(1), 1);
    }

    private static void promise20TheOrder() {
        Due.sentence("that whose lamp has the most left (its life less its wear) first, of several the lowest one");
        LampChanger x = new LampChanger();
        for (int socket = 5; socket >= 0; socket--) {
            x.putIn(socket, 2, 100);
        }
        for (int rank = 0; rank <= 5; rank++) {
            Due.due("all alike, ranked(" + rank + ")", x.ranked(rank), rank);
        }
        Due.due("ranked(6)", x.ranked(6), Due.NONE);
        x.pass(1);
        for (int rank = 0; rank <= 5; rank++) {
            Due.due("the one in 0 is worn, ranked(" + rank + ")", x.ranked(rank), (rank + 1) % 6);
        }
        LampChanger y = new LampChanger();
        y.putIn(0, 2, 53);
        y.putIn(1, 2, 50);
        y.pass(1);
        // 106 less 6 is as much as 100
        Due.due("as much left as 1, ranked(0)", y.ranked(0), 0);
        Due.due("as much left as 0, ranked(1)", y.ranked(1), 1);
        y.pass(1);
        Due.due("less left than 1, ranked(0)", y.ranked(0), 1);
        Due.due("less left than 1, ranked(1)", y.ranked(1), 0);
    }

    private static void promise20NotBurntOut() {
        Due.sentence("Tells the sockets with lamps that are not burnt out");
        LampChanger x = Beacons.worn(93);
        x.pass(1);
        Due.due("one left", x.ranked(0), 0);
        x.pass(1);
        Due.due("none left", x.ranked(0), Due.NONE);
        LampChanger y = Beacons.worn(99);
        y.pass(1);
        y.putIn(5, 2, 50);
        Due.due("the other one", y.ranked(0), 5);
        Due.due("no second one", y.ranked(1), Due.NONE);
    }

    private static void promise21ByTheirTicks() {
        Due.sentence("a place among the boats of the plan, by their ticks, from 0");
        int[] ticks = {500, 9999, 0, 499, 501, 10, 9, 100, 99, 1000};
        int[] sorted = {0, 9, 10, 99, 100, 499, 500, 501, 1000, 9999};
        LampChanger x = new LampChanger();
        for (int tick : ticks) {
            x.boat(tick, tick % 3, 1 + tick % 6);
        }
        for (int place = 0; place <= 9; place++) {
            Due.due("planned(" + place + ", 0)", x.planned(place, 0), sorted[place]);
            Due.due("planned(" + place + ", 1)", x.planned(place, 1), sorted[place] % 3);
            Due.due("planned(" + place + ", 2)", x.planned(place, 2), 1 + sorted[place] % 6);
        }
        Due.due("planned(10, 0)", x.planned(10, 0), Due.NONE);
    }

    private static void promise23BurntOutAndTired() {
        Due.sentence("2 for burnt out ones of them, 3 for tired ones of them (burnt out ones not)");
        LampChanger x = Beacons.worn(94);
        x.set(1, 1);
        x.putIn(1, 0, 100);
        Due.due("tired", x.count(3), 0);
        x.pass(1);
        Due.due("in sockets", x.count(1), 2);
        Due.due("burnt out", x.count(2), 1);
        Due.due("tired and burnt out", x.count(3), 0);
    }

    private static void promise23DarkTicks() {
        Due.sentence("8 for the most dark ticks one behind the other so far (ticks by day between them do not matter)");
        LampChanger x = new LampChanger();
        x.setNight(0, 2);
        x.pass(48 + 1);
        Due.due("2 and 1 by a day between", x.count(8), 3);
        x.putIn(0, 0, 100);
        x.pass(47);
        Due.due("a lit tick", x.count(8), 3);
        Due.due("takeOut", x.takeOut(0), 11);
        x.pass(3);
        Due.due("2 are fewer", x.count(8), 3);
        x.pass(47);
        Due.due("4 are more", x.count(8), 4);
        Due.due("all dark ticks", x.count(7), 3 + 4);
    }

    private static void promise23EventsAndBoats() {
        Due.sentence("9 for the events 0 to 3 so far together, 10 for boats that came so far");
        LampChanger x = new LampChanger();
        x.setNight(47, 0);
        x.set(2, 1);
        x.putIn(0, 0, 100);
        for (int i = 1; i <= 12; i++) {
            if (i == 7) {
                // at tick 36: so that no night comes before tick 78
                x.setNight(30, 31);
            }
            x.turnTo(5);
            x.pass(6);
            Due.due("turns by day", x.count(9), i);
            Due.due("the latest", x.event(0, 2), 6 * i - 2);
        }
        Due.due("known are ten", x.event(10, 0), Due.NONE);
        x.undo();
        Due.due("undone", x.count(9), 11);
        LampChanger y = Beacons.tenBoats();
        y.pass(105);
        Due.read(y, "105:0x1,106:0x1,107:0x1,108:0x1,109:0x1,110:0x1,111:0x1");
        y.pass(20);
        Due.due("boats of two plans", y.count(10), 5 + 7);
        y.undo();
        Due.due("undone", y.count(10), 5);
    }

    public static void main(String[] args) {
        promise5TheWear();
        promise5ItBurnsUntilATickByDay();
        promise6ALampThatBurnsGoesOut();
        promise7ToTheLastOne();
        promise8TheSameTick();
        promise16TheNumbers();
        promise17WhileItTurns();
        promise17TheNextSocketWhileItTurns();
        promise17ThePresentTick();
        promise18TheTicks();
        promise18NotSwitchedOnAgain();
        promise18TiredAlready();
        promise18MoreThanThePatience();
        promise18BurntOutAhead();
        promise18BurntOut();
        promise19UpTo3000();
        promise19IfOnlyTicksPass();
        promise20TheOrder();
        promise20NotBurntOut();
        promise21ByTheirTicks();
        promise23BurntOutAndTired();
        promise23DarkTicks();
        promise23EventsAndBoats();
        Due.end();
    }
}
