import java.util.function.Supplier;
import java.util.function.ToIntFunction;

/**
 * Terms, ERRORS: each call that is refused, and each that answers NONE, by method. The answer is that of the
 * first check in the order of the @return line; and all stays as it was.
 */
public final class RefusedCallsTest {
    private static final int LOWEST = Integer.MIN_VALUE;
    private static final int HIGHEST = Integer.MAX_VALUE;

    private static Supplier<LampChanger> beacon;

    /** Makes the call on one of two objects that are alike; they must still be so behind it. */
    private static void refused(String name, int answer, ToIntFunction<LampChanger> call) {
        LampChanger x = beacon.get();
        LampChanger y = beacon.get();
        Due.due(name, call.applyAsInt(x), answer);
        Told.alike(name + " changes nothing", x, y);
    }

    private static void set() {
        Due.sentence("set: UNKNOWN; BAD_VALUE; NONE if it is so already");
        beacon = Beacons::afterMuch;
        int[] unknown = {-1, 4, LOWEST, HIGHEST};
        for (int which : unknown) {
            refused("set(" + which + ", 1)", Due.UNKNOWN, x -> x.set(which, 1));
            refused("set(" + which + ", -1)", Due.UNKNOWN, x -> x.set(which, -1));
        }
        int[][] wrong = {{0, 74}, {0, 100}, {1, 0}, {1, 6}, {2, 0}, {2, 6}, {3, -1}, {3, 2}, {0, LOWEST},
            {1, HIGHEST}};
        for (int[] w : wrong) {
            refused("set(" + w[0] + ", " + w[1] + ")", Due.BAD_VALUE, x -> x.set(w[0], w[1]));
        }
        int[] now = {99, 1, 3, 1};
        for (int which = 0; which <= 3; which++) {
            int same = which;
            refused("set(" + which + ") as it is", Due.NONE, x -> x.set(same, now[same]));
        }
    }

    private static void setNight() {
        Due.sentence("setNight: BAD_VALUE (also if both are the same); NONE if it is so already");
        beacon = Beacons::afterMuch;
        int[][] wrong = {{-1, 5}, {48, 5}, {5, -1}, {5, 48}, {-1, 48}, {LOWEST, 5}, {5, HIGHEST}, {0, 0},
            {47, 47}, {35, 35}, {13, 13}, {-1, -1}, {48, 48}};
        for (int[] w : wrong) {
            refused("setNight(" + w[0] + ", " + w[1] + ")", Due.BAD_VALUE, x -> x.setNight(w[0], w[1]));
        }
        refused("setNight as it is", Due.NONE, x -> x.setNight(35, 13));
    }

    private static void putIn() {
        Due.sentence("putIn: UNKNOWN; BAD_VALUE; NOT_POSSIBLE if there is a lamp");
        beacon = Beacons::afterMuch;
        int[] sockets = {-1, 6, LOWEST, HIGHEST};
        for (int socket : sockets) {
            refused("putIn(" + socket + ", 0, 100)", Due.UNKNOWN, x -> x.putIn(socket, 0, 100));
            refused("putIn(" + socket + ", 3, 49)", Due.UNKNOWN, x -> x.putIn(socket, 3, 49));
        }
        int[][] wrong = {{-1, 100}, {3, 100}, {0, 49}, {0, 151}, {-1, 49}, {LOWEST, 100}, {HIGHEST, 100},
            {0, LOWEST}, {0, HIGHEST}};
        for (int[] w : wrong) {
            refused("putIn(5, " + w[0] + ", " + w[1] + ")", Due.BAD_VALUE, x -> x.putIn(5, w[0], w[1]));
            refused("putIn(4, " + w[0] + ", " + w[1] + ")", Due.BAD_VALUE, x -> x.putIn(4, w[0], w[1]));
        }
        refused("putIn(4, 2, 50)", Due.NOT_POSSIBLE, x -> x.putIn(4, 2, 50));
        beacon = Beacons::burntOut;
        refused("putIn where one is burnt out", Due.NOT_POSSIBLE, x -> x.putIn(0, 2, 50));
    }

    private static void takeOut() {
        Due.sentence("takeOut: UNKNOWN; NOT_POSSIBLE if there is none, or it burns");
        beacon = Beacons::afterMuch;
        int[] sockets = {-1, 6, LOWEST, HIGHEST};
        for (int socket : sockets) {
            refused("takeOut(" + socket + ")", Due.UNKNOWN, x -> x.takeOut(socket));
        }
        beacon = () -> {
            LampChanger x = new LampChanger();
            x.turnTo(5);
            x.putIn(5, 0, 100);
            x.pass(11);
            return x;
        };
        refused("takeOut of one that burns", Due.NOT_POSSIBLE, x -> x.takeOut(5));
        refused("takeOut where none is", Due.NOT_POSSIBLE, x -> x.takeOut(0));
    }

    private static void turnTo() {
        Due.sentence("turnTo: UNKNOWN; NOT_POSSIBLE if the wheel turns; NONE if it is at the front already");
        Supplier<LampChanger> still = () -> {
            LampChanger x = new LampChanger();
            x.putIn(0, 0, 100);
            x.pass(3);
            return x;
        };
        Supplier<LampChanger> turning = () -> {
            LampChanger x = still.get();
            x.turnTo(3);
            x.pass(2);
            return x;
        };
        int[] sockets = {-1, 6, LOWEST, HIGHEST};
        for (int socket : sockets) {
            beacon = still;
            refused("turnTo(" + socket + ")", Due.UNKNOWN, x -> x.turnTo(socket));
            beacon = turning;
            refused("turnTo(" + socket + ") while it turns", Due.UNKNOWN, x -> x.turnTo(socket));
        }
        for (int socket = 0; socket <= 5; socket++) {
            int to = socket;
            refused("turnTo(" + to + ") while it turns", Due.NOT_POSSIBLE, x -> x.turnTo(to));
        }
        beacon = still;
        refused("turnTo the front", Due.NONE, x -> x.turnTo(0));
    }

    private static void stock() {
        Due.sentence("stock: BAD_VALUE; FULL if there would be more than 99");
        beacon = () -> {
            LampChanger x = Beacons.byDay();
            for (int i = 0; i < 16; i++) {
                x.stock(1, 6);
            }
            return x;
        };
        int[][] wrong = {{-1, 1}, {3, 1}, {1, 0}, {1, 7}, {-1, 0}, {LOWEST, 1}, {HIGHEST, 1}, {1, LOWEST},
            {1, HIGHEST}};
        for (int[] w : wrong) {
            refused("stock(" + w[0] + ", " + w[1] + ")", Due.BAD_VALUE, x -> x.stock(w[0], w[1]));
        }
        for (int many = 4; many <= 6; many++) {
            int more = many;
            refused("96 and " + more, Due.FULL, x -> x.stock(1, more));
        }
        LampChanger x = beacon.get();
        Due.due("96 and 3", x.stock(1, 3), 99);
        Due.due("99 and 1", x.stock(1, 1), Due.FULL);
        Due.due("of another kind", x.stock(0, 6), 6);
    }

    private static void boat() {
        Due.sentence("boat: BAD_VALUE; FULL if there are 10 and none with this tick");
        beacon = Beacons::tenBoats;
        int[][] wrong = {{-1, 0, 1}, {10000, 0, 1}, {5, -1, 1}, {5, 3, 1}, {5, 0, 0}, {5, 0, 7}, {LOWEST, 0, 1},
            {HIGHEST, 0, 1}, {5, LOWEST, 1}, {5, HIGHEST, 1}, {5, 0, LOWEST}, {5, 0, HIGHEST}, {100, 3, 1}};
        for (int[] w : wrong) {
            refused("boat(" + w[0] + ", " + w[1] + ", " + w[2] + ")", Due.BAD_VALUE,
                    x -> x.boat(w[0], w[1], w[2]));
        }
        int[] others = {0, 99, 110, 9999};
        for (int tick : others) {
            refused("an eleventh at " + tick, Due.FULL, x -> x.boat(tick, 0, 1));
        }
        LampChanger x = beacon.get();
        Due.due("one with this tick", x.boat(109, 0, 1), 10);
    }

    private static void readPlan() {
        Due.sentence("readPlan: -100 minus the fault of the text if it has one (which is an error)");
        String[] texts = {"", "5", "05:0x1", "5:3x1", "5:0x7", "5:0x1,", "5:0x1,6:0x1;"};
        int[] faults = {0, 1, 1, 2, 4, 6, 11};
        for (int i = 0; i < texts.length; i++) {
            String text = texts[i];
            beacon = () -> {
                LampChanger x = Beacons.afterMuch();
                x.clearText();
                Due.type(x, text);
                return x;
            };
            refused("readPlan() of \"" + text + "\"", -100 - faults[i], x -> x.readPlan());
        }
    }

    private static void pass() {
        Due.sentence("pass: BAD_VALUE; FULL if the tick would be more than 99999");
        beacon = Beacons::afterMuch;
        int[] wrong = {0, -1, 201, LOWEST, HIGHEST};
        for (int ticks : wrong) {
            refused("pass(" + ticks + ")", Due.BAD_VALUE, x -> x.pass(ticks));
        }
        LampChanger x = new LampChanger();
        Due.pass(x, 99999 - 100);
        Due.due("101 to 99999", x.pass(101), Due.FULL);
        Due.due("201 is no number of ticks", x.pass(201), Due.BAD_VALUE);
        Due.due("tick", x.count(0), 99899);
        Due.due("100 to 99999, and two nights and a tick", x.pass(100), 49);
        Due.due("tick", x.count(0), 99999);
        Due.due("one more", x.pass(1), Due.FULL);
        Due.due("states", x.count(12), 4);
        Due.due("undo()", x.undo(), 3);
        Due.due("tick", x.count(0), 99899);
    }

    private static void textsAndHistory() {
        Due.sentence("type: FULL; undo: NONE; restore: NONE");
        beacon = () -> {
            LampChanger x = Beacons.byDay();
            for (int i = 0; i < 10; i++) {
                Due.type(x, i + ":0x1" + (i < 9 ? "," : ""));
            }
            x.type('?');
            return x;
        };
        refused("the 61st sign", Due.FULL, x -> x.type('5'));
        beacon = () -> {
            LampChanger x = new LampChanger();
            x.keep();
            x.type('5');
            return x;
        };
        refused("undo() of none", Due.NONE, x -> x.undo());
        beacon = Beacons::byDay;
        refused("restore() of none", Due.NONE, x -> x.restore());
    }

    private static void lampAndTiredIn() {
        Due.sentence("lamp: UNKNOWN; BAD_VALUE; NONE if the socket is empty. tiredIn: UNKNOWN; NOT_POSSIBLE if the "
                + "socket is empty, or the lamp is burnt out");
        beacon = Beacons::burntOut;
        int[] sockets = {-1, 6, LOWEST, HIGHEST};
        int[] wrong = {-1, 8, LOWEST, HIGHEST};
        for (int socket : sockets) {
            refused("lamp(" + socket + ", 0)", Due.UNKNOWN, x -> x.lamp(socket, 0));
            refused("tiredIn(" + socket + ")", Due.UNKNOWN, x -> x.tiredIn(socket));
            for (int what : wrong) {
                refused("lamp(" + socket + ", " + what + ")", Due.UNKNOWN, x -> x.lamp(socket, what));
            }
        }
        for (int what : wrong) {
            refused("lamp(0, " + what + ")", Due.BAD_VALUE, x -> x.lamp(0, what));
            refused("lamp(1, " + what + "), an empty socket", Due.BAD_VALUE, x -> x.lamp(1, what));
        }
        for (int what = 0; what <= 7; what++) {
            int of = what;
            refused("lamp(1, " + of + "), an empty socket", Due.NONE, x -> x.lamp(1, of));
        }
        refused("tiredIn(1), an empty socket", Due.NOT_POSSIBLE, x -> x.tiredIn(1));
        refused("tiredIn(0), burnt out", Due.NOT_POSSIBLE, x -> x.tiredIn(0));
    }

    private static void rows() {
        Due.sentence("planned, event: BAD_VALUE (place or back is negative, or what); NONE. ranked: BAD_VALUE; NONE");
        beacon = Beacons::afterMuch;
        int[] negative = {-1, LOWEST};
        int[] wrong = {-1, 3, LOWEST, HIGHEST};
        for (int row : negative) {
            refused("ranked(" + row + ")", Due.BAD_VALUE, x -> x.ranked(row));
            refused("planned(" + row + ", 0)", Due.BAD_VALUE, x -> x.planned(row, 0));
            refused("event(" + row + ", 0)", Due.BAD_VALUE, x -> x.event(row, 0));
        }
        int[] places = {0, 5, 10, HIGHEST};
        for (int what : wrong) {
            for (int place : places) {
                refused("planned(" + place + ", " + what + ")", Due.BAD_VALUE, x -> x.planned(place, what));
                refused("event(" + place + ", " + what + ")", Due.BAD_VALUE, x -> x.event(place, what));
            }
        }
        int[] none = {10, 11, HIGHEST};
        for (int place : none) {
            refused("ranked(" + place + ")", Due.NONE, x -> x.ranked(place));
            refused("planned(" + place + ", 2)", Due.NONE, x -> x.planned(place, 2));
            refused("event(" + place + ", 2)", Due.NONE, x -> x.event(place, 2));
        }
    }

    private static void numbers() {
        Due.sentence("wheel, count: BAD_VALUE. setting: UNKNOWN");
        beacon = Beacons::afterMuch;
        int[] wheel = {-1, 8, LOWEST, HIGHEST};
        for (int what : wheel) {
            refused("wheel(" + what + ")", Due.BAD_VALUE, x -> x.wheel(what));
        }
        int[] count = {-1, 14, LOWEST, HIGHEST};
        for (int what : count) {
            refused("count(" + what + ")", Due.BAD_VALUE, x -> x.count(what));
        }
        int[] setting = {-1, 4, LOWEST, HIGHEST};
        for (int which : setting) {
            refused("setting(" + which + ")", Due.UNKNOWN, x -> x.setting(which));
        }
    }

    private static void whatIsToldChangesNothing() {
        Due.sentence("what is told is told again alike");
        beacon = Beacons::afterMuch;
        LampChanger x = beacon.get();
        Told first = Told.all(x);
        Told.all(x).isAs("told again", first);
        LampChanger y = beacon.get();
        y.darkIn();
        y.tiredIn(0);
        y.tiredIn(4);
        Told.alike("looked ahead", y, beacon.get());
    }

    public static void main(String[] args) {
        set();
        setNight();
        putIn();
        takeOut();
        turnTo();
        stock();
        boat();
        readPlan();
        pass();
        textsAndHistory();
        lampAndTiredIn();
        rows();
        numbers();
        whatIsToldChangesNothing();
        Due.end();
    }
}
