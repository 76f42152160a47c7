import java.util.ArrayList;
import java.util.Arrays;
import java.util.Comparator;
import java.util.List;
import java.util.TreeMap;

/**
 * The document once more, written another way than the class: states that are copied whole, lists and
 * maps that grow. A slip in one of the two shows as a difference.
 */
final class Model {
    static final int UNKNOWN = -1;
    static final int BAD = -2;
    static final int FULL = -3;
    static final int NOT_POSSIBLE = -4;
    static final int NONE = -5;

    static final class Bulb {
        int kind;
        int strength;
        int wear;
        int below;
        boolean tired;

        Bulb(int kind, int strength) {
            this.kind = kind;
            this.strength = strength;
        }

        Bulb copy() {
            Bulb b = new Bulb(kind, strength);
            b.wear = wear;
            b.below = below;
            b.tired = tired;
            return b;
        }

        int pick(int plain, int strong, int small) {
            return kind == 0 ? plain : kind == 1 ? strong : small;
        }

        int life() {
            return pick(400, 700, 200) * strength / 100;
        }

        int nominal() {
            return pick(1000, 1400, 700);
        }

        boolean burntOut() {
            return wear >= life();
        }

        int current() {
            return burntOut() ? 0 : nominal() - nominal() * wear / (4 * life());
        }
    }

    static final class State {
        int tick;
        int dusk = 36;
        int dawn = 12;
        int[] settings = {80, 2, 2, 0};
        int[] stock = new int[3];
        Bulb[] bulbs = new Bulb[6];
        int front;
        int aim = -1;
        int go;
        boolean burning;
        TreeMap<Integer, int[]> plan = new TreeMap<>();
        List<int[]> events = new ArrayList<>();
        List<Boolean> nightTicks = new ArrayList<>();

        State copy() {
            State s = new State();
            s.tick = tick;
            s.dusk = dusk;
            s.dawn = dawn;
            s.settings = settings.clone();
            s.stock = stock.clone();
            for (int i = 0; i < 6; i++) {
                s.bulbs[i] = bulbs[i] == null ? null : bulbs[i].copy();
            }
            s.front = front;
            s.aim = aim;
            s.go = go;
            s.burning = burning;
            s.plan = new TreeMap<>(plan);
            s.events = new ArrayList<>(events);
            s.nightTicks = new ArrayList<>(nightTicks);
            return s;
        }

        boolean night(int tick) {
            int place = tick % 48;
            return dusk < dawn ? dusk <= place && place < dawn : place >= dusk || place < dawn;
        }

        int next() {
            int[] order = new int[6];
            for (int i = 0; i < 6; i++) {
                order[i] = (front + 1 + i) % 6;
            }
            for (int s : order) {
                if (bulbs[s] != null && !bulbs[s].burntOut() && !bulbs[s].tired) {
                    return s;
                }
            }
            for (int s : order) {
                if (bulbs[s] != null && !bulbs[s].burntOut()) {
                    return s;
                }
            }
            return NONE;
        }

        void turn(int to) {
            int steps = to > front ? to - front : to + 6 - front;
            aim = to;
            go = steps * settings[2];
            burning = false;
        }

        void event(int what, int number) {
            events.add(new int[] {what, number, tick});
        }

        boolean step(boolean boats) {
            boolean lit = false;
            if (aim >= 0 && --go == 0) {
                front = aim;
                aim = -1;
            }
            Bulb at = bulbs[front];
            if (aim < 0 && night(tick)) {
                if (at == null || at.burntOut()) {
                    int n = next();
                    if (n != NONE && n != front) {
                        turn(n);
                        event(2, n);
                    }
                } else {
                    lit = burn(at);
                }
            } else if (aim < 0) {
                burning = false;
                int n = next();
                boolean better = n != NONE && !bulbs[n].tired;
                if (better && (at == null || at.burntOut() || at.tired)) {
                    turn(n);
                    event(3, n);
                }
            }
            if (night(tick)) {
                nightTicks.add(!lit);
            }
            boolean dark = night(tick) && !lit;
            if (boats && plan.containsKey(tick)) {
                boat(plan.get(tick));
            }
            tick++;
            return dark;
        }

        private boolean burn(Bulb at) {
            if (!burning) {
                at.wear += at.pick(10, 15, 5);
                if (at.burntOut()) {
                    event(0, front);
                    return false;
                }
            }
            burning = true;
            at.wear++;
            if (at.current() * 100 < settings[0] * at.nominal()) {
                at.below++;
                if (at.below >= settings[1] && !at.tired) {
                    at.tired = true;
                    event(1, front);
                }
            } else {
                at.below = 0;
            }
            if (at.burntOut()) {
                burning = false;
                event(0, front);
            }
            return true;
        }

        private void boat(int[] load) {
            stock[load[0]] = Math.min(99, stock[load[0]] + load[1]);
            for (int s = 0; s < 6; s++) {
                boolean goes = bulbs[s] != null
                        && (bulbs[s].burntOut() || bulbs[s].tired && settings[3] == 1);
                if (goes && !(burning && s == front)) {
                    bulbs[s] = null;
                }
            }
            int in = 0;
            for (int s = 0; s < 6; s++) {
                for (int k = 0; k < 3 && bulbs[s] == null; k++) {
                    if (stock[k] > 0) {
                        stock[k]--;
                        bulbs[s] = new Bulb(k, 100);
                        in++;
                    }
                }
            }
            event(4, in);
        }

        int events(int from, int to) {
            int n = 0;
            for (int[] e : events) {
                n += e[0] >= from && e[0] <= to ? 1 : 0;
            }
            return n;
        }

        int dark() {
            int n = 0;
            for (boolean d : nightTicks) {
                n += d ? 1 : 0;
            }
            return n;
        }

        int longestDark() {
            int most = 0;
            int run = 0;
            for (boolean d : nightTicks) {
                run = d ? run + 1 : 0;
                most = Math.max(most, run);
            }
            return most;
        }
    }

    State s = new State();
    State kept = null;
    List<State> history = new ArrayList<>();
    String text = "";

    private void act() {
        history.add(s.copy());
        if (history.size() > 4) {
            history.remove(0);
        }
    }

    private static boolean out(int v, int low, int high) {
        return v < low || v > high;
    }

    int set(int which, int value) {
        int[][] ranges = {{75, 99}, {1, 5}, {1, 5}, {0, 1}};
        if (out(which, 0, 3)) {
            return UNKNOWN;
        }
        if (out(value, ranges[which][0], ranges[which][1])) {
            return BAD;
        }
        if (s.settings[which] == value) {
            return NONE;
        }
        act();
        int was = s.settings[which];
        s.settings[which] = value;
        return was;
    }

    int setNight(int dusk, int dawn) {
        if (out(dusk, 0, 47) || out(dawn, 0, 47) || dusk == dawn) {
            return BAD;
        }
        if (s.dusk == dusk && s.dawn == dawn) {
            return NONE;
        }
        act();
        s.dusk = dusk;
        s.dawn = dawn;
        int ticks = 0;
        for (int t = 0; t < 48; t++) {
            ticks += s.night(t) ? 1 : 0;
        }
        return ticks;
    }

    int putIn(int socket, int kind, int strength) {
        if (out(socket, 0, 5)) {
            return UNKNOWN;
        }
        if (out(kind, 0, 2) || out(strength, 50, 150)) {
            return BAD;
        }
        if (s.bulbs[socket] != null) {
            return NOT_POSSIBLE;
        }
        act();
        s.bulbs[socket] = new Bulb(kind, strength);
        return s.bulbs[socket].life();
    }

    int takeOut(int socket) {
        if (out(socket, 0, 5)) {
            return UNKNOWN;
        }
        if (s.bulbs[socket] == null || s.burning && s.front == socket) {
            return NOT_POSSIBLE;
        }
        act();
        int wear = s.bulbs[socket].wear;
        s.bulbs[socket] = null;
        return wear;
    }

    int turnTo(int socket) {
        if (out(socket, 0, 5)) {
            return UNKNOWN;
        }
        if (s.aim >= 0) {
            return NOT_POSSIBLE;
        }
        if (s.front == socket) {
            return NONE;
        }
        act();
        s.turn(socket);
        return s.go;
    }

    int stock(int kind, int many) {
        if (out(kind, 0, 2) || out(many, 1, 6)) {
            return BAD;
        }
        if (s.stock[kind] + many > 99) {
            return FULL;
        }
        act();
        return s.stock[kind] += many;
    }

    int boat(int tick, int kind, int many) {
        if (out(tick, 0, 9999) || out(kind, 0, 2) || out(many, 1, 6)) {
            return BAD;
        }
        if (s.plan.size() == 10 && !s.plan.containsKey(tick)) {
            return FULL;
        }
        act();
        s.plan.put(tick, new int[] {kind, many});
        return s.plan.size();
    }

    private static final String BOAT = "(0|[1-9][0-9]{0,3}):[0-2]x[1-6]";

    /** Whether some text that is a plan begins so: tried by putting endings behind it. */
    private static boolean begins(String start) {
        String[] endings = {"", "1:0x1", ":0x1", "0x1", "x1", "1"};
        for (String ending : endings) {
            if ((start + ending).matches(BOAT + "(," + BOAT + ")*")) {
                return true;
            }
        }
        return false;
    }

    int readPlan() {
        for (int i = 0; i < text.length(); i++) {
            if (!begins(text.substring(0, i + 1))) {
                return -100 - i;
            }
        }
        if (!text.matches(BOAT + "(," + BOAT + ")*")) {
            return -100 - text.length();
        }
        act();
        s.plan = new TreeMap<>();
        for (String boat : text.split(",")) {
            String[] parts = boat.split("[:x]");
            s.plan.put(Integer.parseInt(parts[0]),
                    new int[] {Integer.parseInt(parts[1]), Integer.parseInt(parts[2])});
        }
        return s.plan.size();
    }

    int pass(int ticks) {
        if (out(ticks, 1, 200)) {
            return BAD;
        }
        if (s.tick + ticks > 99999) {
            return FULL;
        }
        act();
        int dark = 0;
        for (int i = 0; i < ticks; i++) {
            dark += s.step(true) ? 1 : 0;
        }
        return dark;
    }

    int type(char c) {
        if (text.length() == 60) {
            return FULL;
        }
        text += c;
        return text.length();
    }

    int clearText() {
        int had = text.length();
        text = "";
        return had;
    }

    int undo() {
        if (history.isEmpty()) {
            return NONE;
        }
        s = history.remove(history.size() - 1);
        return history.size();
    }

    int keep() {
        kept = s.copy();
        return s.tick;
    }

    int restore() {
        if (kept == null) {
            return NONE;
        }
        act();
        s = kept.copy();
        return s.tick;
    }

    int lamp(int socket, int what) {
        if (out(socket, 0, 5)) {
            return UNKNOWN;
        }
        if (out(what, 0, 7)) {
            return BAD;
        }
        Bulb b = s.bulbs[socket];
        if (b == null) {
            return NONE;
        }
        int[] told = {b.kind, b.strength, b.wear, b.life(), b.current(), b.tired ? 1 : 0,
            b.burntOut() ? 1 : 0, b.below};
        return told[what];
    }

    int wheel(int what) {
        if (out(what, 0, 7)) {
            return BAD;
        }
        int[] told = {s.front, s.aim < 0 ? NONE : s.aim, s.aim < 0 ? 0 : s.go, s.burning ? 1 : 0,
            s.night(s.tick) ? 1 : 0, s.next(), s.dusk, s.dawn};
        return told[what];
    }

    int tiredIn(int socket) {
        if (out(socket, 0, 5)) {
            return UNKNOWN;
        }
        if (s.bulbs[socket] == null || s.bulbs[socket].burntOut()) {
            return NOT_POSSIBLE;
        }
        Bulb b = s.bulbs[socket].copy();
        int ticks = 0;
        while (!b.tired) {
            if (b.burntOut()) {
                return NONE;
            }
            ticks++;
            b.wear++;
            b.below = b.current() * 100 < s.settings[0] * b.nominal() ? b.below + 1 : 0;
            b.tired = b.below >= s.settings[1];
        }
        return ticks;
    }

    int darkIn() {
        State ahead = s.copy();
        for (int i = 0; i < 3001; i++) {
            if (ahead.step(false)) {
                return i;
            }
        }
        return NONE;
    }

    int ranked(int rank) {
        if (rank < 0) {
            return BAD;
        }
        List<Integer> sockets = new ArrayList<>();
        for (int i = 0; i < 6; i++) {
            if (s.bulbs[i] != null && !s.bulbs[i].burntOut()) {
                sockets.add(i);
            }
        }
        sockets.sort(Comparator.comparingInt(i -> s.bulbs[i].wear - s.bulbs[i].life()));
        return rank < sockets.size() ? sockets.get(rank) : NONE;
    }

    int planned(int place, int what) {
        if (place < 0 || out(what, 0, 2)) {
            return BAD;
        }
        if (place >= s.plan.size()) {
            return NONE;
        }
        int tick = new ArrayList<>(s.plan.keySet()).get(place);
        return what == 0 ? tick : s.plan.get(tick)[what - 1];
    }

    int event(int back, int what) {
        if (back < 0 || out(what, 0, 2)) {
            return BAD;
        }
        if (back >= 10 || back >= s.events.size()) {
            return NONE;
        }
        return s.events.get(s.events.size() - 1 - back)[what];
    }

    int count(int what) {
        if (out(what, 0, 13)) {
            return BAD;
        }
        int in = (int) Arrays.stream(s.bulbs).filter(b -> b != null).count();
        int burnt = (int) Arrays.stream(s.bulbs).filter(b -> b != null && b.burntOut()).count();
        int tired = (int) Arrays.stream(s.bulbs).filter(b -> b != null && !b.burntOut() && b.tired).count();
        int[] told = {s.tick, in, burnt, tired, s.stock[0], s.stock[1], s.stock[2], s.dark(),
            s.longestDark(), s.events(0, 3), s.events(4, 4), s.plan.size(), history.size(), text.length()};
        return told[what];
    }

    int setting(int which) {
        return out(which, 0, 3) ? UNKNOWN : s.settings[which];
    }
}
