/** Terms, THE WHEEL: a test for each sentence that names an edge. */
public final class WheelEdgesTest {
    private static void theFrontAtFirst() {
        Due.sentence("A socket is at the front (0 at first)");
        LampChanger x = new LampChanger();
        Due.due("wheel(0)", x.wheel(0), 0);
        Due.due("turnTo(0)", x.turnTo(0), Due.NONE);
    }

    private static void stillAtFirst() {
        Due.sentence("The wheel is still");
        LampChanger x = new LampChanger();
        Due.due("wheel(1)", x.wheel(1), Due.NONE);
        Due.due("wheel(2)", x.wheel(2), 0);
        Due.due("wheel(3)", x.wheel(3), 0);
    }

    private static void aTurn(int from, int to, int ticksPerStep) {
        LampChanger x = new LampChanger();
        x.setNight(47, 0);
        x.set(2, 1);
        if (from > 0) {
            x.turnTo(from);
            x.pass(from);
        }
        x.set(2, ticksPerStep);
        int steps = 0;
        for (int socket = from; socket != to; socket = socket == 5 ? 0 : socket + 1) {
            steps++;
        }
        String turn = "from " + from + " to " + to + ", " + ticksPerStep + " ticks a step: ";
        Due.due(turn + "turnTo", x.turnTo(to), steps * ticksPerStep);
        if (steps * ticksPerStep > 1) {
            x.pass(steps * ticksPerStep - 1);
        }
        Due.due(turn + "front with a tick to go", x.wheel(0), from);
        Due.due(turn + "aim with a tick to go", x.wheel(1), to);
        Due.due(turn + "a tick to go", x.wheel(2), 1);
        x.pass(1);
        Due.due(turn + "front", x.wheel(0), to);
        Due.due(turn + "aim", x.wheel(1), Due.NONE);
        Due.due(turn + "ticks to go", x.wheel(2), 0);
    }

    private static void everyTurn() {
        Due.sentence("turns to a socket, forward, one socket after the other (0 comes behind 5), "
                + "with so many ticks for each step");
        for (int from = 0; from <= 5; from++) {
            for (int to = 0; to <= 5; to++) {
                for (int ticksPerStep = 1; ticksPerStep <= 5 && to != from; ticksPerStep++) {
                    aTurn(from, to, ticksPerStep);
                }
            }
        }
    }

    private static void noneBurnsWhileItTurns() {
        Due.sentence("while the wheel turns, none does");
        LampChanger x = new LampChanger();
        for (int socket = 0; socket <= 5; socket++) {
            x.putIn(socket, 0, 100);
        }
        x.pass(1);
        Due.due("burns", x.wheel(3), 1);
        x.turnTo(2);
        for (int go = 4; go >= 2; go--) {
            Due.due("burns with " + go + " to go", x.wheel(3), 0);
            Due.due("dark", x.pass(1), 1);
        }
        Due.due("burns with 1 to go", x.wheel(3), 0);
        int[] wears = {11, 0, 0, 0, 0, 0};
        for (int socket = 0; socket <= 5; socket++) {
            Due.due("wear in " + socket, x.lamp(socket, 2), wears[socket]);
        }
        Due.due("lit as it is still", x.pass(1), 0);
        Due.due("burns", x.wheel(3), 1);
    }

    private static LampChanger empty(int front) {
        LampChanger x = new LampChanger();
        x.setNight(47, 0);
        x.set(2, 1);
        if (front > 0) {
            x.turnTo(front);
            x.pass(front);
        }
        return x;
    }

    private static void theFirstOneForward() {
        Due.sentence("The next socket is the first one, forward from the front "
                + "(the front itself is the last that is looked at)");
        for (int front = 0; front <= 5; front++) {
            for (int sockets = 0; sockets < 64; sockets++) {
                LampChanger x = empty(front);
                int next = Due.NONE;
                for (int step = 6; step >= 1; step--) {
                    int socket = (front + step) % 6;
                    if ((sockets >> socket & 1) == 1) {
                        x.putIn(socket, 2, 100);
                        next = socket;
                    }
                }
                Due.due("front " + front + ", lamps " + sockets, x.wheel(5), next);
            }
        }
    }

    private static void theFrontItselfIsTheLast() {
        Due.sentence("the front itself is the last that is looked at");
        LampChanger x = empty(5);
        x.putIn(5, 0, 100);
        Due.due("the front alone", x.wheel(5), 5);
        x.putIn(4, 0, 100);
        Due.due("the one behind it comes ahead of it", x.wheel(5), 4);
        x.putIn(0, 0, 100);
        Due.due("0 comes behind 5", x.wheel(5), 0);
    }

    /** The front is 5; the lamps in 0 and 5 are tired, the one in 5 burns. */
    private static LampChanger twoTired() {
        LampChanger x = Beacons.quicklyTired();
        x.set(2, 1);
        x.putIn(0, 2, 50);
        x.putIn(5, 2, 50);
        x.pass(1);
        x.turnTo(5);
        x.pass(5);
        Due.due("tired ones", x.count(3), 2);
        return x;
    }

    private static void withoutAFreshOneATiredOne() {
        Due.sentence("without such a one, the first one likewise with a lamp that is not burnt out");
        LampChanger x = twoTired();
        Due.due("the first forward of the tired ones", x.wheel(5), 0);
        x.putIn(4, 2, 50);
        Due.due("a fresh one, though it is farther", x.wheel(5), 4);
        x.takeOut(4);
        x.takeOut(0);
        Due.due("the tired front, looked at last", x.wheel(5), 5);
    }

    private static void withoutAnyOneNone() {
        Due.sentence("without such a one there is none");
        LampChanger x = Beacons.quicklyTired();
        Due.due("no lamp", x.wheel(5), Due.NONE);
        x.setNight(0, 47);
        x.set(2, 1);
        x.putIn(0, 2, 50);
        x.putIn(1, 2, 50);
        x.turnTo(1);
        x.pass(1);
        x.turnTo(0);
        // 5 and 42, then 5 and 47; switched on once more it burns out, at 96
        x.pass(5 + 91);
        Due.due("burnt out at the front", x.lamp(0, 6), 1);
        Due.due("tired in 1", x.lamp(1, 5), 1);
        Due.due("the tired one", x.wheel(5), 1);
        x.putIn(3, 0, 100);
        Due.due("a fresh one behind the tired one", x.wheel(5), 3);
        x.takeOut(3);
        x.takeOut(1);
        Due.due("the burnt out one alone", x.wheel(5), Due.NONE);
        x.takeOut(0);
        Due.due("no lamp", x.wheel(5), Due.NONE);
    }

    public static void main(String[] args) {
        theFrontAtFirst();
        stillAtFirst();
        everyTurn();
        noneBurnsWhileItTurns();
        theFirstOneForward();
        theFrontItselfIsTheLast();
        withoutAFreshOneATiredOne();
        withoutAnyOneNone();
        Due.end();
    }
}
