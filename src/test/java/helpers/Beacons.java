/** Beacons in states that more than one test begins with. */
final class Beacons {
    private Beacons() {
    }

    /** Limit 99 and patience 1: a small weak lamp is tired in the first tick in which it burns. */
    static LampChanger quicklyTired() {
        LampChanger x = new LampChanger();
        x.set(0, 99);
        x.set(1, 1);
        return x;
    }

    /** At tick 91, in the night: a lamp at the front that is tired since 72 and burnt out since 90. */
    static LampChanger burntOut() {
        LampChanger x = new LampChanger();
        x.setNight(0, 47);
        x.putIn(0, 2, 50);
        x.pass(91);
        return x;
    }

    /**
     * At tick 96, dusk, in the third night of 47 ticks at most: a small lamp at the front that has a life
     * of 100, is not tired, does not burn, and has this wear (58 to 99).
     */
    static LampChanger worn(int wear) {
        LampChanger x = new LampChanger();
        x.set(0, 75);
        x.set(1, 5);
        x.setNight(0, 47);
        x.putIn(0, 2, 50);
        // 5 and 47, then 5 and the rest
        x.pass(48);
        x.setNight(0, wear - 57);
        x.pass(48);
        return x;
    }

    /** By day, at tick 13: an empty beacon. */
    static LampChanger byDay() {
        LampChanger x = new LampChanger();
        x.pass(13);
        return x;
    }

    /** A boat each for the ticks 100 to 109. */
    static LampChanger tenBoats() {
        LampChanger x = new LampChanger();
        for (int tick = 100; tick <= 109; tick++) {
            x.boat(tick, tick % 3, 2);
        }
        return x;
    }

    /** Much has happened, and there are states in the history, a snapshot and a text. */
    static LampChanger afterMuch() {
        LampChanger x = quicklyTired();
        x.putIn(0, 2, 50);
        x.putIn(1, 2, 50);
        x.putIn(4, 0, 120);
        x.stock(1, 3);
        x.boat(20, 0, 1);
        x.boat(300, 2, 2);
        x.pass(100);
        x.keep();
        x.set(2, 3);
        x.set(3, 1);
        x.setNight(35, 13);
        x.pass(46);
        Due.type(x, "160:1x3,170:2x6");
        return x;
    }
}
