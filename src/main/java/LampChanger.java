/**
 * A beacon with a wheel of six lamps that is turned to the next one when a lamp burns out or grows
 * tired. README.md tells how it is used; the numbered promises are in ../shared/DOC.md.
 *
 * <p>All rows are made once, in the constructor: no call makes an object.
 */
public final class LampChanger {
    public static final int UNKNOWN = -1;
    public static final int BAD_VALUE = -2;
    public static final int FULL = -3;
    public static final int NOT_POSSIBLE = -4;
    public static final int NONE = -5;

    private static final int SOCKETS = 6;
    private static final int KINDS = 3;
    private static final int DAY = 48;
    private static final int LAST_TICK = 99999;
    private static final int MOST_TICKS_AT_ONCE = 200;
    private static final int MOST_TICKS_AHEAD = 3000;

    private static final int WEAKEST = 50;
    private static final int USUAL_STRENGTH = 100;
    private static final int STRONGEST = 150;

    private static final int MOST_IN_STOCK = 99;
    private static final int MOST_LAMPS_AT_ONCE = 6;
    private static final int MOST_BOATS = 10;
    private static final int LAST_TICK_OF_A_BOAT = 9999;

    private static final int MOST_EVENTS = 10;
    private static final int MOST_STATES = 4;
    private static final int LONGEST_TEXT = 60;
    private static final int FAULTS_FROM = -100;
    private static final int NO_FAULT = -1;

    private static final int LIMIT = 0;
    private static final int PATIENCE = 1;
    private static final int TICKS_PER_STEP = 2;
    private static final int TIRED_ONES_TOO = 3;
    private static final int[] LOWEST_SETTINGS = {75, 1, 1, 0};
    private static final int[] HIGHEST_SETTINGS = {99, 5, 5, 1};
    private static final int[] FIRST_SETTINGS = {80, 2, 2, 0};

    private static final int BURNT_OUT = 0;
    private static final int TIRED = 1;
    private static final int TURN_BY_NIGHT = 2;
    private static final int TURN_BY_DAY = 3;
    private static final int BOAT_CAME = 4;

    private final Beacon beacon;
    private final Beacon snapshot;
    private final Beacon rehearsal;
    private final Lamp trial;
    private final History history;
    private final PlanText text;
    private final Plan planOfText;
    private boolean hasSnapshot;

    public LampChanger() {
        beacon = new Beacon();
        snapshot = new Beacon();
        rehearsal = new Beacon();
        trial = new Lamp();
        history = new History();
        text = new PlanText();
        planOfText = new Plan();
        hasSnapshot = false;
    }

    // ---- settings

    public int set(int which, int value) {
        if (!isSetting(which)) {
            return UNKNOWN;
        }
        if (!isFromTo(value, Rows.at(LOWEST_SETTINGS, which), Rows.at(HIGHEST_SETTINGS, which))) {
            return BAD_VALUE;
        }
        int previous = Rows.at(beacon.settings, which);
        if (previous == value) {
            return NONE;
        }
        history.record(beacon);
        Rows.write(beacon.settings, which, value);
        return previous;
    }

    public int setNight(int dusk, int dawn) {
        if (!isPlaceOfDay(dusk) || !isPlaceOfDay(dawn) || dusk == dawn) {
            return BAD_VALUE;
        }
        if (beacon.dusk == dusk && beacon.dawn == dawn) {
            return NONE;
        }
        history.record(beacon);
        beacon.dusk = dusk;
        beacon.dawn = dawn;
        return beacon.ticksOfNight();
    }

    // ---- lamps

    public int putIn(int socket, int kind, int strength) {
        if (!isSocket(socket)) {
            return UNKNOWN;
        }
        if (!isKind(kind) || !isFromTo(strength, WEAKEST, STRONGEST)) {
            return BAD_VALUE;
        }
        Lamp lamp = beacon.wheel.lampAt(socket);
        if (lamp.isThere()) {
            return NOT_POSSIBLE;
        }
        history.record(beacon);
        lamp.makeNew(kind, strength);
        return lamp.life;
    }

    public int takeOut(int socket) {
        if (!isSocket(socket)) {
            return UNKNOWN;
        }
        Lamp lamp = beacon.wheel.lampAt(socket);
        if (!lamp.isThere() || beacon.wheel.burnsAt(socket)) {
            return NOT_POSSIBLE;
        }
        history.record(beacon);
        int wear = lamp.wear;
        lamp.remove();
        return wear;
    }

    public int turnTo(int socket) {
        if (!isSocket(socket)) {
            return UNKNOWN;
        }
        if (beacon.wheel.isTurning()) {
            return NOT_POSSIBLE;
        }
        if (beacon.wheel.front == socket) {
            return NONE;
        }
        history.record(beacon);
        beacon.wheel.startTurn(socket, Rows.at(beacon.settings, TICKS_PER_STEP));
        return beacon.wheel.ticksToGo;
    }

    public int stock(int kind, int many) {
        if (!isKind(kind) || !isLoad(many)) {
            return BAD_VALUE;
        }
        int then = Rows.at(beacon.lampsInStock, kind) + many;
        if (then > MOST_IN_STOCK) {
            return FULL;
        }
        history.record(beacon);
        Rows.write(beacon.lampsInStock, kind, then);
        return then;
    }

    // ---- boats

    public int boat(int tick, int kind, int many) {
        if (!isFromTo(tick, 0, LAST_TICK_OF_A_BOAT) || !isKind(kind) || !isLoad(many)) {
            return BAD_VALUE;
        }
        if (!beacon.plan.hasRoomFor(tick)) {
            return FULL;
        }
        history.record(beacon);
        beacon.plan.enter(tick, kind, many);
        return beacon.plan.boats;
    }

    public int readPlan() {
        int fault = text.readInto(planOfText);
        if (fault != NO_FAULT) {
            return FAULTS_FROM - fault;
        }
        if (text.hadTooManyBoats) {
            return FULL;
        }
        history.record(beacon);
        beacon.plan.copyFrom(planOfText);
        return beacon.plan.boats;
    }

    // ---- ticks

    public int pass(int ticks) {
        if (!isFromTo(ticks, 1, MOST_TICKS_AT_ONCE)) {
            return BAD_VALUE;
        }
        if (ticks > LAST_TICK - beacon.tick) {
            return FULL;
        }
        history.record(beacon);
        int darkBefore = beacon.darkTicks;
        for (int i = 0; i < ticks; i++) {
            beacon.passTick(true);
        }
        return beacon.darkTicks - darkBefore;
    }

    // ---- texts

    public int type(char character) {
        if (!text.add(character)) {
            return FULL;
        }
        return text.length;
    }

    public int clearText() {
        int had = text.length;
        text.length = 0;
        return had;
    }

    // ---- history

    public int undo() {
        if (history.states == 0) {
            return NONE;
        }
        history.takeBackInto(beacon);
        return history.states;
    }

    public int keep() {
        snapshot.copyFrom(beacon);
        hasSnapshot = true;
        return beacon.tick;
    }

    public int restore() {
        if (!hasSnapshot) {
            return NONE;
        }
        history.record(beacon);
        beacon.copyFrom(snapshot);
        return beacon.tick;
    }

    // ---- what is told

    public int lamp(int socket, int what) {
        if (!isSocket(socket)) {
            return UNKNOWN;
        }
        if (!isFromTo(what, 0, 7)) {
            return BAD_VALUE;
        }
        Lamp lamp = beacon.wheel.lampAt(socket);
        if (!lamp.isThere()) {
            return NONE;
        }
        switch (what) {
            case 0:
                return lamp.kind;
            case 1:
                return lamp.strength;
            case 2:
                return lamp.wear;
            case 3:
                return lamp.life;
            case 4:
                return lamp.current();
            case 5:
                return oneIf(lamp.tired);
            case 6:
                return oneIf(lamp.isBurntOut());
            default:
                return lamp.ticksBelow;
        }
    }

    public int wheel(int what) {
        switch (what) {
            case 0:
                return beacon.wheel.front;
            case 1:
                return beacon.wheel.aim;
            case 2:
                return beacon.wheel.ticksToGo;
            case 3:
                return oneIf(beacon.wheel.burns);
            case 4:
                return oneIf(beacon.isNight());
            case 5:
                return beacon.wheel.nextSocket();
            case 6:
                return beacon.dusk;
            case 7:
                return beacon.dawn;
            default:
                return BAD_VALUE;
        }
    }

    public int tiredIn(int socket) {
        if (!isSocket(socket)) {
            return UNKNOWN;
        }
        Lamp lamp = beacon.wheel.lampAt(socket);
        if (!lamp.isUsable()) {
            return NOT_POSSIBLE;
        }
        if (lamp.tired) {
            return 0;
        }
        trial.copyFrom(lamp);
        int limit = Rows.at(beacon.settings, LIMIT);
        int patience = Rows.at(beacon.settings, PATIENCE);
        int left = lamp.left();
        for (int ticks = 1; ticks <= left; ticks++) {
            if (trial.growsTiredByBurning(limit, patience)) {
                return ticks;
            }
        }
        return NONE;
    }

    public int darkIn() {
        rehearsal.copyFrom(beacon);
        for (int ahead = 0; ahead <= MOST_TICKS_AHEAD; ahead++) {
            if (rehearsal.passTick(false)) {
                return ahead;
            }
        }
        return NONE;
    }

    public int ranked(int rank) {
        if (rank < 0) {
            return BAD_VALUE;
        }
        return beacon.wheel.socketOfRank(rank);
    }

    public int planned(int place, int what) {
        if (place < 0 || !isFromTo(what, 0, 2)) {
            return BAD_VALUE;
        }
        int row = beacon.plan.rowOfPlace(place);
        if (row == NONE) {
            return NONE;
        }
        switch (what) {
            case 0:
                return Rows.at(beacon.plan.ticks, row);
            case 1:
                return Rows.at(beacon.plan.kinds, row);
            default:
                return Rows.at(beacon.plan.loads, row);
        }
    }

    public int event(int back, int what) {
        if (back < 0 || !isFromTo(what, 0, 2)) {
            return BAD_VALUE;
        }
        int row = beacon.log.rowBack(back);
        if (row == NONE) {
            return NONE;
        }
        switch (what) {
            case 0:
                return Rows.at(beacon.log.happenings, row);
            case 1:
                return Rows.at(beacon.log.numbers, row);
            default:
                return Rows.at(beacon.log.ticks, row);
        }
    }

    public int count(int what) {
        switch (what) {
            case 0:
                return beacon.tick;
            case 1:
                return beacon.wheel.lampsThere();
            case 2:
                return beacon.wheel.lampsBurntOut();
            case 3:
                return beacon.wheel.lampsTired();
            case 4:
            case 5:
            case 6:
                return Rows.at(beacon.lampsInStock, what - 4);
            case 7:
                return beacon.darkTicks;
            case 8:
                return beacon.longestDarkRun;
            case 9:
                return beacon.changes;
            case 10:
                return beacon.boatsThatCame;
            case 11:
                return beacon.plan.boats;
            case 12:
                return history.states;
            case 13:
                return text.length;
            default:
                return BAD_VALUE;
        }
    }

    public int setting(int which) {
        if (!isSetting(which)) {
            return UNKNOWN;
        }
        return Rows.at(beacon.settings, which);
    }

    // ---- arguments

    private static boolean isFromTo(int value, int lowest, int highest) {
        return value >= lowest && value <= highest;
    }

    private static boolean isSetting(int which) {
        return isFromTo(which, 0, FIRST_SETTINGS.length - 1);
    }

    private static boolean isPlaceOfDay(int place) {
        return isFromTo(place, 0, DAY - 1);
    }

    private static boolean isSocket(int socket) {
        return isFromTo(socket, 0, SOCKETS - 1);
    }

    private static boolean isKind(int kind) {
        return isFromTo(kind, 0, KINDS - 1);
    }

    private static boolean isLoad(int many) {
        return isFromTo(many, 1, MOST_LAMPS_AT_ONCE);
    }

    private static int oneIf(boolean so) {
        return so ? 1 : 0;
    }

    /** Rows of numbers, read and written only behind a look at the index. */
    private static final class Rows {
        static int at(int[] row, int index) {
            return index >= 0 && index < row.length ? row[index] : 0;
        }

        static void write(int[] row, int index, int value) {
            if (index >= 0 && index < row.length) {
                row[index] = value;
            }
        }

        static void copy(int[] from, int[] to) {
            System.arraycopy(from, 0, to, 0, Math.min(from.length, to.length));
        }
    }

    /** What is in a socket: a lamp, or none. */
    private static final class Lamp {
        private static final int NO_LAMP = -1;
        private static final int[] LIVES = {400, 700, 200};
        private static final int[] NOMINAL_CURRENTS = {1000, 1400, 700};
        private static final int[] WEARS_BY_SWITCHING_ON = {10, 15, 5};

        int kind;
        int strength;
        int life;
        int wear;
        int ticksBelow;
        boolean tired;

        Lamp() {
            kind = NO_LAMP;
        }

        void makeNew(int newKind, int newStrength) {
            kind = newKind;
            strength = newStrength;
            life = Rows.at(LIVES, newKind) * newStrength / 100;
            wear = 0;
            ticksBelow = 0;
            tired = false;
        }

        void remove() {
            kind = NO_LAMP;
        }

        void copyFrom(Lamp other) {
            kind = other.kind;
            strength = other.strength;
            life = other.life;
            wear = other.wear;
            ticksBelow = other.ticksBelow;
            tired = other.tired;
        }

        boolean isThere() {
            return kind != NO_LAMP;
        }

        boolean isBurntOut() {
            return wear >= life;
        }

        boolean isUsable() {
            return isThere() && !isBurntOut();
        }

        boolean isFresh() {
            return isUsable() && !tired;
        }

        int left() {
            return life - wear;
        }

        int current() {
            if (life <= 0 || isBurntOut()) {
                return 0;
            }
            int nominal = Rows.at(NOMINAL_CURRENTS, kind);
            return nominal - nominal * wear / (4 * life);
        }

        void wearBySwitchingOn() {
            wear += Rows.at(WEARS_BY_SWITCHING_ON, kind);
        }

        /** Burns for a tick; answers whether it is tired by that and was not before. */
        boolean growsTiredByBurning(int limit, int patience) {
            wear++;
            boolean below = 100 * current() < limit * Rows.at(NOMINAL_CURRENTS, kind);
            ticksBelow = below ? ticksBelow + 1 : 0;
            boolean grows = !tired && ticksBelow >= patience;
            tired = tired || grows;
            return grows;
        }
    }

    /** The sockets with their lamps, and how they stand. */
    private static final class Wheel {
        final Lamp[] lamps;
        final Lamp noLamp;
        int front;
        int aim;
        int ticksToGo;
        boolean burns;

        Wheel() {
            lamps = new Lamp[SOCKETS];
            for (int i = 0; i < lamps.length; i++) {
                lamps[i] = new Lamp();
            }
            noLamp = new Lamp();
            aim = NONE;
        }

        void copyFrom(Wheel other) {
            for (int i = 0; i < SOCKETS; i++) {
                lampAt(i).copyFrom(other.lampAt(i));
            }
            front = other.front;
            aim = other.aim;
            ticksToGo = other.ticksToGo;
            burns = other.burns;
        }

        /** Where there is no such socket there is no lamp: so callers need not ask for null. */
        Lamp lampAt(int socket) {
            if (socket < 0 || socket >= lamps.length) {
                return noLamp;
            }
            Lamp lamp = lamps[socket];
            return lamp == null ? noLamp : lamp;
        }

        boolean burnsAt(int socket) {
            return burns && front == socket;
        }

        boolean isTurning() {
            return aim != NONE;
        }

        void startTurn(int socket, int ticksPerStep) {
            burns = false;
            aim = socket;
            ticksToGo = Math.floorMod(socket - front, SOCKETS) * ticksPerStep;
        }

        void goOn() {
            if (!isTurning()) {
                return;
            }
            ticksToGo--;
            if (ticksToGo <= 0) {
                ticksToGo = 0;
                front = aim;
                aim = NONE;
            }
        }

        int nextSocket() {
            int usable = NONE;
            for (int step = 1; step <= SOCKETS; step++) {
                int socket = (front + step) % SOCKETS;
                Lamp lamp = lampAt(socket);
                if (lamp.isFresh()) {
                    return socket;
                }
                if (usable == NONE && lamp.isUsable()) {
                    usable = socket;
                }
            }
            return usable;
        }

        int socketOfRank(int rank) {
            for (int socket = 0; socket < SOCKETS; socket++) {
                if (lampAt(socket).isUsable() && usableOnesAheadOf(socket) == rank) {
                    return socket;
                }
            }
            return NONE;
        }

        private int usableOnesAheadOf(int socket) {
            int left = lampAt(socket).left();
            int ahead = 0;
            for (int other = 0; other < SOCKETS; other++) {
                Lamp lamp = lampAt(other);
                boolean more = lamp.left() > left || lamp.left() == left && other < socket;
                if (lamp.isUsable() && more) {
                    ahead++;
                }
            }
            return ahead;
        }

        int lampsThere() {
            int there = 0;
            for (int socket = 0; socket < SOCKETS; socket++) {
                there += oneIf(lampAt(socket).isThere());
            }
            return there;
        }

        int lampsBurntOut() {
            int burntOut = 0;
            for (int socket = 0; socket < SOCKETS; socket++) {
                Lamp lamp = lampAt(socket);
                burntOut += oneIf(lamp.isThere() && lamp.isBurntOut());
            }
            return burntOut;
        }

        int lampsTired() {
            int tired = 0;
            for (int socket = 0; socket < SOCKETS; socket++) {
                Lamp lamp = lampAt(socket);
                tired += oneIf(lamp.isUsable() && lamp.tired);
            }
            return tired;
        }
    }

    /** The boats that are planned, in the order in which they were entered. */
    private static final class Plan {
        final int[] ticks;
        final int[] kinds;
        final int[] loads;
        int boats;

        Plan() {
            ticks = new int[MOST_BOATS];
            kinds = new int[MOST_BOATS];
            loads = new int[MOST_BOATS];
        }

        void copyFrom(Plan other) {
            Rows.copy(other.ticks, ticks);
            Rows.copy(other.kinds, kinds);
            Rows.copy(other.loads, loads);
            boats = other.boats;
        }

        void empty() {
            boats = 0;
        }

        int rowOfTick(int tick) {
            for (int row = 0; row < boats; row++) {
                if (Rows.at(ticks, row) == tick) {
                    return row;
                }
            }
            return NONE;
        }

        boolean hasRoomFor(int tick) {
            return boats < MOST_BOATS || rowOfTick(tick) != NONE;
        }

        void enter(int tick, int kind, int many) {
            int row = rowOfTick(tick);
            if (row == NONE) {
                row = boats;
                boats++;
            }
            Rows.write(ticks, row, tick);
            Rows.write(kinds, row, kind);
            Rows.write(loads, row, many);
        }

        /** The row of the boat that has so many boats ahead of it. */
        int rowOfPlace(int place) {
            for (int row = 0; row < boats; row++) {
                if (boatsAheadOf(Rows.at(ticks, row)) == place) {
                    return row;
                }
            }
            return NONE;
        }

        private int boatsAheadOf(int tick) {
            int ahead = 0;
            for (int row = 0; row < boats; row++) {
                ahead += oneIf(Rows.at(ticks, row) < tick);
            }
            return ahead;
        }
    }

    /** The text, and how it is read as a plan: sign by sign, each asked whether its place allows it. */
    private static final class PlanText {
        private static final int IN_TICK = 0;
        private static final int AT_KIND = 1;
        private static final int AT_TIMES = 2;
        private static final int AT_LOAD = 3;
        private static final int BEHIND_BOAT = 4;
        private static final int MOST_DIGITS = 4;

        final char[] signs;
        int length;
        boolean hadTooManyBoats;
        private int place;
        private int digits;
        private int tick;
        private int kind;

        PlanText() {
            signs = new char[LONGEST_TEXT];
        }

        boolean add(char sign) {
            if (length < 0 || length >= signs.length) {
                return false;
            }
            signs[length] = sign;
            length++;
            return true;
        }

        /** Answers the fault of the text, or NO_FAULT. */
        int readInto(Plan plan) {
            plan.empty();
            hadTooManyBoats = false;
            beginBoat();
            for (int i = 0; i < length && i < signs.length; i++) {
                if (!allows(signs[i], plan)) {
                    return i;
                }
            }
            return place == BEHIND_BOAT ? NO_FAULT : length;
        }

        private void beginBoat() {
            place = IN_TICK;
            digits = 0;
            tick = 0;
        }

        private boolean allows(char sign, Plan plan) {
            switch (place) {
                case IN_TICK:
                    return allowsInTick(sign);
                case AT_KIND:
                    return allowsAsKind(sign);
                case AT_TIMES:
                    place = AT_LOAD;
                    return sign == 'x';
                case AT_LOAD:
                    return allowsAsLoad(sign, plan);
                default:
                    beginBoat();
                    return sign == ',';
            }
        }

        private boolean allowsInTick(char sign) {
            if (sign == ':') {
                place = AT_KIND;
                return digits > 0;
            }
            boolean zeroInFront = digits > 0 && tick == 0;
            if (!isFromTo(sign, '0', '9') || digits >= MOST_DIGITS || zeroInFront) {
                return false;
            }
            tick = 10 * tick + sign - '0';
            digits++;
            return true;
        }

        private boolean allowsAsKind(char sign) {
            kind = sign - '0';
            place = AT_TIMES;
            return isKind(kind);
        }

        private boolean allowsAsLoad(char sign, Plan plan) {
            int many = sign - '0';
            if (!isLoad(many)) {
                return false;
            }
            if (plan.hasRoomFor(tick)) {
                plan.enter(tick, kind, many);
            } else {
                hadTooManyBoats = true;
            }
            place = BEHIND_BOAT;
            return true;
        }
    }

    /** The latest events, in a ring. */
    private static final class EventLog {
        final int[] happenings;
        final int[] numbers;
        final int[] ticks;
        private int events;
        private int nextRow;

        EventLog() {
            happenings = new int[MOST_EVENTS];
            numbers = new int[MOST_EVENTS];
            ticks = new int[MOST_EVENTS];
        }

        void copyFrom(EventLog other) {
            Rows.copy(other.happenings, happenings);
            Rows.copy(other.numbers, numbers);
            Rows.copy(other.ticks, ticks);
            events = other.events;
            nextRow = other.nextRow;
        }

        void note(int happening, int number, int tick) {
            Rows.write(happenings, nextRow, happening);
            Rows.write(numbers, nextRow, number);
            Rows.write(ticks, nextRow, tick);
            nextRow = (nextRow + 1) % MOST_EVENTS;
            events = Math.min(events + 1, MOST_EVENTS);
        }

        int rowBack(int back) {
            if (back < 0 || back >= events) {
                return NONE;
            }
            return Math.floorMod(nextRow - 1 - back, MOST_EVENTS);
        }
    }

    /** A state: everything but the text, the history and the snapshot. */
    private static final class Beacon {
        final int[] settings;
        final int[] lampsInStock;
        final Wheel wheel;
        final Plan plan;
        final EventLog log;
        int tick;
        int dusk;
        int dawn;
        int darkTicks;
        int longestDarkRun;
        int changes;
        int boatsThatCame;
        private int darkRun;

        Beacon() {
            settings = new int[FIRST_SETTINGS.length];
            for (int i = 0; i < settings.length; i++) {
                settings[i] = Rows.at(FIRST_SETTINGS, i);
            }
            lampsInStock = new int[KINDS];
            wheel = new Wheel();
            plan = new Plan();
            log = new EventLog();
            dusk = 36;
            dawn = 12;
        }

        void copyFrom(Beacon other) {
            Rows.copy(other.settings, settings);
            Rows.copy(other.lampsInStock, lampsInStock);
            wheel.copyFrom(other.wheel);
            plan.copyFrom(other.plan);
            log.copyFrom(other.log);
            tick = other.tick;
            dusk = other.dusk;
            dawn = other.dawn;
            darkTicks = other.darkTicks;
            longestDarkRun = other.longestDarkRun;
            changes = other.changes;
            boatsThatCame = other.boatsThatCame;
            darkRun = other.darkRun;
        }

        int ticksOfNight() {
            return Math.floorMod(dawn - dusk, DAY);
        }

        boolean isNight() {
            return Math.floorMod(tick - dusk, DAY) < ticksOfNight();
        }

        /** Answers whether the tick was dark. */
        boolean passTick(boolean boatsCome) {
            boolean night = isNight();
            boolean lit = false;
            wheel.goOn();
            if (!wheel.isTurning()) {
                if (night) {
                    lit = shine();
                } else {
                    rest();
                }
            }
            if (night) {
                countNightTick(lit);
            }
            if (boatsCome) {
                receiveBoat();
            }
            tick++;
            return night && !lit;
        }

        /** Answers whether a lamp burnt in this tick. */
        private boolean shine() {
            Lamp lamp = wheel.lampAt(wheel.front);
            if (lamp.isUsable()) {
                return burn(lamp);
            }
            int next = wheel.nextSocket();
            if (next != NONE && next != wheel.front) {
                turnFor(TURN_BY_NIGHT, next);
            }
            return false;
        }

        private boolean burn(Lamp lamp) {
            if (!wheel.burns) {
                lamp.wearBySwitchingOn();
            }
            boolean burnt = !lamp.isBurntOut();
            if (burnt && lamp.growsTiredByBurning(Rows.at(settings, LIMIT), Rows.at(settings, PATIENCE))) {
                noteChange(TIRED, wheel.front);
            }
            wheel.burns = !lamp.isBurntOut();
            if (!wheel.burns) {
                noteChange(BURNT_OUT, wheel.front);
            }
            return burnt;
        }

        private void rest() {
            wheel.burns = false;
            if (wheel.lampAt(wheel.front).isFresh()) {
                return;
            }
            int next = wheel.nextSocket();
            if (wheel.lampAt(next).isFresh()) {
                turnFor(TURN_BY_DAY, next);
            }
        }

        private void turnFor(int happening, int socket) {
            wheel.startTurn(socket, Rows.at(settings, TICKS_PER_STEP));
            noteChange(happening, socket);
        }

        private void noteChange(int happening, int socket) {
            log.note(happening, socket, tick);
            changes++;
        }

        private void countNightTick(boolean lit) {
            if (lit) {
                darkRun = 0;
                return;
            }
            darkTicks++;
            darkRun++;
            longestDarkRun = Math.max(longestDarkRun, darkRun);
        }

        private void receiveBoat() {
            int row = plan.rowOfTick(tick);
            if (row == NONE) {
                return;
            }
            int kind = Rows.at(plan.kinds, row);
            int then = Rows.at(lampsInStock, kind) + Rows.at(plan.loads, row);
            Rows.write(lampsInStock, kind, Math.min(then, MOST_IN_STOCK));
            takeOldLampsOut();
            log.note(BOAT_CAME, fillEmptySockets(), tick);
            boatsThatCame++;
        }

        private void takeOldLampsOut() {
            boolean tiredOnesToo = Rows.at(settings, TIRED_ONES_TOO) == 1;
            for (int socket = 0; socket < SOCKETS; socket++) {
                Lamp lamp = wheel.lampAt(socket);
                boolean old = lamp.isBurntOut() || tiredOnesToo && lamp.tired;
                if (old && !wheel.burnsAt(socket)) {
                    lamp.remove();
                }
            }
        }

        /** Answers how many lamps are put in. */
        private int fillEmptySockets() {
            int putIn = 0;
            for (int socket = 0; socket < SOCKETS; socket++) {
                Lamp lamp = wheel.lampAt(socket);
                int kind = lowestKindInStock();
                if (!lamp.isThere() && kind != NONE) {
                    Rows.write(lampsInStock, kind, Rows.at(lampsInStock, kind) - 1);
                    lamp.makeNew(kind, USUAL_STRENGTH);
                    putIn++;
                }
            }
            return putIn;
        }

        private int lowestKindInStock() {
            for (int kind = 0; kind < KINDS; kind++) {
                if (Rows.at(lampsInStock, kind) > 0) {
                    return kind;
                }
            }
            return NONE;
        }
    }

    /** The latest states that were there before acts, in a ring. */
    private static final class History {
        final Beacon[] ring;
        int states;
        private int oldest;

        History() {
            ring = new Beacon[MOST_STATES];
            for (int i = 0; i < ring.length; i++) {
                ring[i] = new Beacon();
            }
        }

        void record(Beacon state) {
            if (states == MOST_STATES) {
                oldest = (oldest + 1) % MOST_STATES;
                states--;
            }
            Beacon room = behindLatest();
            if (room != null) {
                room.copyFrom(state);
            }
            states++;
        }

        void takeBackInto(Beacon state) {
            states--;
            Beacon latest = behindLatest();
            if (latest != null) {
                state.copyFrom(latest);
            }
        }

        private Beacon behindLatest() {
            int row = Math.floorMod(oldest + states, MOST_STATES);
            return row >= 0 && row < ring.length ? ring[row] : null;
        }
    }
}
