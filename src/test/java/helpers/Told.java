import java.util.ArrayList;
import java.util.List;

/** What an object tells of itself, so that two objects, or one ahead of a call and behind it, can be compared. */
final class Told {
    private final List<String> calls = new ArrayList<>();
    private final List<Integer> answers = new ArrayList<>();

    private Told() {
    }

    private int add(String call, int answer) {
        calls.add(call);
        answers.add(answer);
        return answer;
    }

    /** A state, all but the text, the history and the snapshot: at most some 150 calls. */
    static Told state(LampChanger x) {
        Told told = new Told();
        told.lamps(x);
        told.wheelAndCounts(x);
        told.rows(x);
        for (int which = 0; which <= 3; which++) {
            told.add("setting(" + which + ")", x.setting(which));
        }
        told.add("darkIn()", x.darkIn());
        return told;
    }

    /** A state, and how many states are in the history and how long the text is. */
    static Told all(LampChanger x) {
        Told told = state(x);
        told.textAndHistory(x);
        return told;
    }

    /** The wears, and the numbers of the wheel and of the counts: 28 calls. */
    static Told brief(LampChanger x) {
        Told told = new Told();
        for (int socket = 0; socket <= 5; socket++) {
            told.add("lamp(" + socket + ", 2)", x.lamp(socket, 2));
        }
        told.wheelAndCounts(x);
        told.textAndHistory(x);
        return told;
    }

    private void lamps(LampChanger x) {
        for (int socket = 0; socket <= 5; socket++) {
            int what = 0;
            while (what <= 7 && add("lamp(" + socket + ", " + what + ")", x.lamp(socket, what)) != Due.NONE) {
                what++;
            }
            add("tiredIn(" + socket + ")", x.tiredIn(socket));
            add("ranked(" + socket + ")", x.ranked(socket));
        }
    }

    private void wheelAndCounts(LampChanger x) {
        for (int what = 0; what <= 7; what++) {
            add("wheel(" + what + ")", x.wheel(what));
        }
        for (int what = 0; what <= 11; what++) {
            add("count(" + what + ")", x.count(what));
        }
    }

    private void textAndHistory(LampChanger x) {
        add("count(12)", x.count(12));
        add("count(13)", x.count(13));
    }

    private void rows(LampChanger x) {
        int back = 0;
        while (add("event(" + back + ", 0)", x.event(back, 0)) != Due.NONE) {
            add("event(" + back + ", 1)", x.event(back, 1));
            add("event(" + back + ", 2)", x.event(back, 2));
            back++;
        }
        int place = 0;
        while (add("planned(" + place + ", 0)", x.planned(place, 0)) != Due.NONE) {
            add("planned(" + place + ", 1)", x.planned(place, 1));
            add("planned(" + place + ", 2)", x.planned(place, 2));
            place++;
        }
    }

    void isAs(String when, Told other) {
        Due.due(when + ": how much is told", calls.size(), other.calls.size());
        for (int i = 0; i < Math.min(calls.size(), other.calls.size()); i++) {
            Due.due(when + ": " + calls.get(i), answers.get(i), other.answers.get(i));
        }
    }

    /**
     * Whether two objects are alike in all that is told, and in what is not told at once: the snapshot, the
     * states of the history and the signs of the text.
     */
    static void alike(String when, LampChanger x, LampChanger y) {
        all(x).isAs(when, all(y));
        int left = 0;
        for (int i = 0; i <= 4 && left != Due.NONE; i++) {
            left = y.undo();
            Due.due(when + ", undo()", x.undo(), left);
            brief(x).isAs(when + ", undo " + i, brief(y));
        }
        Due.due(when + ", restore()", x.restore(), y.restore());
        brief(x).isAs(when + ", restore()", brief(y));
        Due.due(when + ", readPlan()", x.readPlan(), y.readPlan());
        brief(x).isAs(when + ", readPlan()", brief(y));
    }
}
