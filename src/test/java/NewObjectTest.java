/** Promise 1: a new object, and that one object knows nothing of another. */
public final class NewObjectTest {
    private static void countsAreZero(LampChanger x) {
        for (int what = 0; what <= 13; what++) {
            Due.due("count(" + what + ")", x.count(what), 0);
        }
    }

    private static void wheelIsStill(LampChanger x) {
        int[] due = {0, Due.NONE, 0, 0, 1, Due.NONE, 36, 12};
        for (int what = 0; what <= 7; what++) {
            Due.due("wheel(" + what + ")", x.wheel(what), due[what]);
        }
    }

    private static void settingsAreTheFirst(LampChanger x) {
        int[] due = {80, 2, 2, 0};
        for (int which = 0; which <= 3; which++) {
            Due.due("setting(" + which + ")", x.setting(which), due[which]);
        }
    }

    private static void nothingIsThere(LampChanger x) {
        for (int socket = 0; socket <= 5; socket++) {
            Due.due("lamp(" + socket + ", 0)", x.lamp(socket, 0), Due.NONE);
            Due.due("tiredIn(" + socket + ")", x.tiredIn(socket), Due.NOT_POSSIBLE);
            Due.due("takeOut(" + socket + ")", x.takeOut(socket), Due.NOT_POSSIBLE);
        }
        Due.due("ranked(0)", x.ranked(0), Due.NONE);
        Due.due("planned(0, 0)", x.planned(0, 0), Due.NONE);
        Due.due("event(0, 0)", x.event(0, 0), Due.NONE);
        Due.due("undo()", x.undo(), Due.NONE);
        Due.due("restore()", x.restore(), Due.NONE);
        Due.due("clearText()", x.clearText(), 0);
        Due.due("darkIn()", x.darkIn(), 0);
    }

    private static void objectsShareNothing() {
        LampChanger used = new LampChanger();
        used.set(0, 90);
        used.setNight(3, 4);
        used.putIn(0, 1, 100);
        used.stock(2, 5);
        Due.read(used, "3:1x2");
        used.pass(100);
        used.keep();
        LampChanger fresh = new LampChanger();
        countsAreZero(fresh);
        wheelIsStill(fresh);
        settingsAreTheFirst(fresh);
        nothingIsThere(fresh);
    }

    public static void main(String[] args) {
        LampChanger x = new LampChanger();
        countsAreZero(x);
        wheelIsStill(x);
        settingsAreTheFirst(x);
        nothingIsThere(x);
        countsAreZero(x);
        objectsShareNothing();
        Due.end();
    }
}
