/** Terms, LAMPS and SETTINGS: a test for each sentence that names an edge. */
public final class LampEdgesTest {
    private static final int[] LIVES = {400, 700, 200};
    private static final int[] CURRENTS = {1000, 1400, 700};
    private static final int[] BY_SWITCHING_ON = {10, 15, 5};

    private static void sixSockets() {
        Due.sentence("The wheel has 6 sockets, numbered from 0");
        LampChanger x = new LampChanger();
        Due.due("putIn(-1)", x.putIn(-1, 0, 100), Due.UNKNOWN);
        for (int socket = 0; socket <= 5; socket++) {
            Due.due("putIn into " + socket, x.putIn(socket, 0, 100), 400);
        }
        Due.due("putIn(6)", x.putIn(6, 0, 100), Due.UNKNOWN);
        Due.due("lamps", x.count(1), 6);
    }

    private static void eachEmptyAtFirst() {
        Due.sentence("each empty (at first)");
        LampChanger x = new LampChanger();
        for (int socket = 0; socket <= 5; socket++) {
            Due.due("lamp(" + socket + ", 2)", x.lamp(socket, 2), Due.NONE);
        }
        Due.due("lamps", x.count(1), 0);
    }

    private static void strengths() {
        Due.sentence("has a strength (50 to 150)");
        for (int kind = 0; kind <= 2; kind++) {
            LampChanger x = new LampChanger();
            Due.due("49", x.putIn(0, kind, 49), Due.BAD_VALUE);
            Due.due("151", x.putIn(0, kind, 151), Due.BAD_VALUE);
            Due.due("50", x.putIn(0, kind, 50), LIVES[kind] / 2);
            Due.due("150", x.putIn(5, kind, 150), LIVES[kind] * 3 / 2);
            Due.due("lamp(0, 1)", x.lamp(0, 1), 50);
            Due.due("lamp(5, 1)", x.lamp(5, 1), 150);
        }
    }

    private static void aNewLampHasNoWear() {
        Due.sentence("a wear (0 when it is put in)");
        LampChanger x = Beacons.burntOut();
        Due.due("takeOut", x.takeOut(0), 100);
        Due.due("putIn", x.putIn(0, 2, 50), 100);
        Due.due("wear of one put in by hand", x.lamp(0, 2), 0);
        LampChanger y = Beacons.burntOut();
        y.boat(91, 2, 1);
        y.pass(1);
        Due.due("strength of one put in from a boat", y.lamp(0, 1), 100);
        Due.due("wear of one put in from a boat", y.lamp(0, 2), 0);
    }

    private static void aNewLampIsNotTired() {
        Due.sentence("and is tired or not");
        LampChanger x = Beacons.quicklyTired();
        x.putIn(0, 2, 50);
        Due.due("a new one", x.lamp(0, 5), 0);
        x.pass(1);
        Due.due("a tired one", x.lamp(0, 5), 1);
        x.turnTo(1);
        x.takeOut(0);
        x.putIn(0, 2, 50);
        Due.due("a new one in its place", x.lamp(0, 5), 0);
        Due.due("its ticks below the limit", x.lamp(0, 7), 0);
    }

    private static void everyLife() {
        Due.sentence("The life of a lamp is that of its kind times its strength, divided by 100");
        for (int kind = 0; kind <= 2; kind++) {
            for (int strength = 50; strength <= 150; strength++) {
                LampChanger x = new LampChanger();
                int life = LIVES[kind] * strength / 100;
                String lamp = "kind " + kind + ", strength " + strength;
                Due.due(lamp + ", putIn", x.putIn(2, kind, strength), life);
                Due.due(lamp + ", lamp(2, 3)", x.lamp(2, 3), life);
            }
        }
    }

    private static void burntOutAtItsLife() {
        Due.sentence("A lamp is burnt out if its wear is its life or more");
        // switched on and one tick: 93 comes to 99, 94 to 100; by switching on alone 95 comes to 100, 99 to 104
        int[] before = {93, 94, 95, 96, 99};
        int[] behind = {99, 100, 100, 101, 104};
        for (int i = 0; i < before.length; i++) {
            LampChanger x = Beacons.worn(before[i]);
            Due.due("wear", x.lamp(0, 2), before[i]);
            Due.due("burnt out before", x.lamp(0, 6), 0);
            x.pass(1);
            Due.due("wear then", x.lamp(0, 2), behind[i]);
            Due.due("burnt out with a wear of " + behind[i], x.lamp(0, 6), behind[i] >= 100 ? 1 : 0);
            Due.due("count(2) with a wear of " + behind[i], x.count(2), behind[i] >= 100 ? 1 : 0);
        }
    }

    private static void everyCurrent() {
        Due.sentence("The current of a lamp is its nominal one less nominal * wear / (4 * life of the lamp)");
        for (int kind = 0; kind <= 2; kind++) {
            LampChanger x = new LampChanger();
            x.setNight(0, 47);
            int life = x.putIn(0, kind, 50);
            int left = life;
            for (int i = 0; i < 150 && left > 0; i++) {
                int wear = x.lamp(0, 2);
                left = life - wear;
                int less = 0;
                while ((less + 1) * 4 * life <= CURRENTS[kind] * wear) {
                    less++;
                }
                Due.due("kind " + kind + ", wear " + wear, x.lamp(0, 4), left > 0 ? CURRENTS[kind] - less : 0);
                x.pass(kind == 2 ? 1 : 3);
            }
            Due.holds("kind " + kind + " burnt out", left <= 0);
        }
    }

    private static void noCurrentWhenBurntOut() {
        Due.sentence("that of a burnt out one is 0");
        LampChanger x = Beacons.worn(93);
        x.pass(1);
        Due.due("current with one left", x.lamp(0, 4), 700 - 173);
        x.pass(1);
        Due.due("current with none left", x.lamp(0, 4), 0);
        LampChanger y = Beacons.worn(99);
        y.pass(1);
        Due.due("current of one worn beyond its life", y.lamp(0, 4), 0);
    }

    private static void wearBySwitchingOn() {
        Due.sentence("a wear by switching on (10, 15, 5)");
        for (int kind = 0; kind <= 2; kind++) {
            LampChanger x = new LampChanger();
            x.putIn(0, kind, 100);
            x.pass(1);
            Due.due("one tick of kind " + kind, x.lamp(0, 2), BY_SWITCHING_ON[kind] + 1);
        }
    }

    private static void aSetting(int which, int lowest, int highest, int first) {
        LampChanger x = new LampChanger();
        String set = "set(" + which + ", ";
        Due.due("setting(" + which + ")", x.setting(which), first);
        Due.due(set + (lowest - 1) + ")", x.set(which, lowest - 1), Due.BAD_VALUE);
        Due.due(set + (highest + 1) + ")", x.set(which, highest + 1), Due.BAD_VALUE);
        int was = first;
        for (int value = lowest; value <= highest; value++) {
            Due.due(set + value + ")", x.set(which, value), value == was ? Due.NONE : was);
            Due.due("setting(" + which + ")", x.setting(which), value);
            was = value;
        }
    }

    private static void theLimit() {
        Due.sentence("0 the limit in percent (75 to 99; 80)");
        aSetting(0, 75, 99, 80);
    }

    private static void thePatience() {
        Due.sentence("1 the patience (1 to 5; 2)");
        aSetting(1, 1, 5, 2);
    }

    private static void theTicksForAStep() {
        Due.sentence("2 the ticks for a step of the wheel (1 to 5; 2)");
        aSetting(2, 1, 5, 2);
    }

    private static void theTiredLampsOfBoats() {
        Due.sentence("3 whether boats take tired lamps out, too (0 or 1; 0)");
        aSetting(3, 0, 1, 0);
    }

    public static void main(String[] args) {
        sixSockets();
        eachEmptyAtFirst();
        strengths();
        aNewLampHasNoWear();
        aNewLampIsNotTired();
        everyLife();
        burntOutAtItsLife();
        everyCurrent();
        noCurrentWhenBurntOut();
        wearBySwitchingOn();
        theLimit();
        thePatience();
        theTicksForAStep();
        theTiredLampsOfBoats();
        Due.end();
    }
}
