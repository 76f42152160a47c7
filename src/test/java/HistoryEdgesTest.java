import java.util.function.ToIntFunction;

/** Terms, HISTORY, and promises 13 to 15: a test for each sentence that names an edge. */
public final class HistoryEdgesTest {
    private static void atMostFourStates() {
        Due.sentence("A history of at most 4 states is kept; when one more is recorded, the oldest one is dropped");
        for (int acts = 0; acts <= 13; acts++) {
            LampChanger x = new LampChanger();
            for (int i = 1; i <= acts; i++) {
                x.stock(2, 1);
                Due.due("states behind act " + i, x.count(12), Math.min(i, 4));
            }
            int states = Math.min(acts, 4);
            for (int left = states - 1; left >= 0; left--) {
                Due.due("undo() behind " + acts + " acts", x.undo(), left);
                Due.due("stock", x.count(6), acts - (states - left));
            }
            Due.due("undo() of none behind " + acts + " acts", x.undo(), Due.NONE);
            Due.due("stock", x.count(6), acts - states);
        }
    }

    private static void undoAndActsInTurn() {
        Due.sentence("undo() removes and restores the latest one");
        LampChanger x = new LampChanger();
        for (int i = 1; i <= 5; i++) {
            x.stock(0, 1);
        }
        Due.due("undo()", x.undo(), 3);
        Due.due("undo()", x.undo(), 2);
        x.stock(0, 6);
        Due.due("3 and 6", x.count(4), 9);
        x.stock(0, 6);
        x.stock(0, 6);
        Due.due("states", x.count(12), 4);
        int[] stock = {15, 9, 3, 2};
        for (int i = 0; i < stock.length; i++) {
            Due.due("undo()", x.undo(), 3 - i);
            Due.due("stock", x.count(4), stock[i]);
        }
        Due.due("the oldest ones are dropped", x.undo(), Due.NONE);
    }

    private static void undoOfAnEmptyHistory() {
        Due.sentence("NONE if the history is empty");
        LampChanger x = new LampChanger();
        Due.due("a new object", x.undo(), Due.NONE);
        x.type('5');
        x.keep();
        Due.due("no act yet", x.undo(), Due.NONE);
        x.stock(0, 1);
        Due.due("an act", x.undo(), 0);
        Due.due("undone", x.undo(), Due.NONE);
        Due.due("undo is no act", x.count(12), 0);
    }

    private static void act(String name, ToIntFunction<LampChanger> call) {
        LampChanger x = Beacons.byDay();
        x.putIn(1, 1, 50);
        Due.type(x, "5:1x2");
        x.keep();
        Told before = Told.all(x);
        Due.holds(name + " is done", call.applyAsInt(x) >= 0);
        Due.due(name + " records a state", x.count(12), 3);
        Due.due("undo of " + name, x.undo(), 2);
        Told.all(x).isAs("undo of " + name, before);
    }

    private static void actsAreRecorded() {
        Due.sentence("Each call of a method that is described as an act, and returns no error and not NONE, "
                + "records the state that was before it");
        act("set", x -> x.set(0, 75));
        act("setNight", x -> x.setNight(0, 47));
        act("putIn", x -> x.putIn(5, 2, 150));
        act("takeOut", x -> x.takeOut(1));
        act("turnTo", x -> x.turnTo(5));
        act("stock", x -> x.stock(2, 6));
        act("boat", x -> x.boat(9999, 2, 6));
        act("readPlan", x -> x.readPlan());
        act("pass", x -> x.pass(200));
        act("restore", x -> x.restore());
    }

    private static void noAct(String name, ToIntFunction<LampChanger> call) {
        LampChanger x = Beacons.byDay();
        call.applyAsInt(x);
        Due.due(name + " records nothing", x.count(12), 1);
        Due.due("undo() behind " + name, x.undo(), 0);
        Due.due("tick behind " + name, x.count(0), 0);
    }

    private static void othersAreNotRecorded() {
        Due.sentence("Each call of a method that is described as an act");
        noAct("type", x -> x.type('5'));
        noAct("clearText", x -> x.clearText());
        noAct("keep", x -> x.keep());
        noAct("lamp", x -> x.lamp(0, 0));
        noAct("wheel", x -> x.wheel(0));
        noAct("tiredIn", x -> x.tiredIn(0));
        noAct("darkIn", x -> x.darkIn());
        noAct("ranked", x -> x.ranked(0));
        noAct("planned", x -> x.planned(0, 0));
        noAct("event", x -> x.event(0, 0));
        noAct("count", x -> x.count(0));
        noAct("setting", x -> x.setting(0));
    }

    private static void errorsAndNoneAreNotRecorded() {
        Due.sentence("and returns no error and not NONE");
        noAct("set, an error", x -> x.set(0, 100));
        noAct("set, NONE", x -> x.set(0, 80));
        noAct("setNight, an error", x -> x.setNight(3, 3));
        noAct("setNight, NONE", x -> x.setNight(36, 12));
        noAct("putIn, an error", x -> x.putIn(6, 0, 100));
        noAct("takeOut, an error", x -> x.takeOut(0));
        noAct("turnTo, an error", x -> x.turnTo(6));
        noAct("turnTo, NONE", x -> x.turnTo(0));
        noAct("stock, an error", x -> x.stock(0, 7));
        noAct("boat, an error", x -> x.boat(0, 0, 7));
        noAct("readPlan, an error", x -> x.readPlan());
        noAct("pass, an error", x -> x.pass(201));
        noAct("restore, NONE", x -> x.restore());
    }

    private static void changesToTheSameAreRecorded() {
        Due.sentence("a boat, a plan or a snapshot that is as it was before: the document tells no NONE");
        LampChanger x = new LampChanger();
        x.boat(5, 1, 1);
        Due.due("boat", x.boat(5, 1, 1), 1);
        Due.due("states", x.count(12), 2);
        Due.due("readPlan", Due.read(x, "5:1x1"), 1);
        Due.due("states", x.count(12), 3);
        x.keep();
        Due.due("restore", x.restore(), 0);
        Due.due("states", x.count(12), 4);
    }

    private static void oneSnapshot() {
        Due.sentence("There is one snapshot, empty at first");
        LampChanger x = new LampChanger();
        Due.due("no snapshot", x.restore(), Due.NONE);
        Due.due("keep() at 0", x.keep(), 0);
        x.pass(200);
        Due.due("restore()", x.restore(), 0);
        x.pass(7);
        Due.due("keep() at 7, in place of the one that was", x.keep(), 7);
        x.pass(100);
        Due.due("restore()", x.restore(), 7);
        Due.due("tick", x.count(0), 7);
        Due.due("restore() again", x.restore(), 7);
    }

    private static void theSnapshotStays() {
        Due.sentence("Restores the state of the snapshot, which stays");
        LampChanger x = Beacons.afterMuch();
        x.keep();
        Told kept = Told.brief(x);
        x.pass(200);
        x.restore();
        Told.brief(x).isAs("restored", kept);
        x.set(2, 5);
        x.turnTo(4);
        x.pass(150);
        x.restore();
        Told.brief(x).isAs("restored again", kept);
        Due.due("undo of restore", x.undo(), 3);
        x.restore();
        Told.brief(x).isAs("restored once more", kept);
    }

    private static void notTheText() {
        Due.sentence("A state is everything but the text, the history and the snapshot");
        LampChanger x = new LampChanger();
        x.stock(0, 1);
        x.keep();
        Due.type(x, "5:1x2");
        x.stock(0, 1);
        Due.due("undo()", x.undo(), 1);
        Due.due("the text stays by undo", x.count(13), 5);
        x.clearText();
        Due.type(x, "5:1x23");
        Due.due("restore()", x.restore(), 0);
        Due.due("the text stays by restore", x.count(13), 6);
        Due.due("its signs, too", x.readPlan(), -105);
    }

    private static void notTheHistory() {
        Due.sentence("everything but ... the history");
        LampChanger x = new LampChanger();
        x.keep();
        x.stock(0, 1);
        x.stock(0, 1);
        Due.due("restore()", x.restore(), 0);
        Due.due("the states before are still there", x.count(12), 3);
        Due.due("undo of restore", x.undo(), 2);
        Due.due("stock", x.count(4), 2);
        Due.due("undo of an act before it", x.undo(), 1);
        Due.due("stock", x.count(4), 1);
    }

    private static void notTheSnapshot() {
        Due.sentence("everything but ... the snapshot");
        LampChanger x = new LampChanger();
        x.stock(0, 1);
        x.keep();
        Due.due("undo()", x.undo(), 0);
        Due.due("the snapshot stays by undo", x.restore(), 0);
        Due.due("stock", x.count(4), 1);
        x.stock(0, 4);
        x.keep();
        x.undo();
        Due.due("stock", x.count(4), 1);
        x.restore();
        Due.due("the later snapshot stays by undo", x.count(4), 5);
    }

    private static void everythingElse() {
        Due.sentence("A state is everything");
        LampChanger x = Beacons.afterMuch();
        x.undo();
        x.undo();
        x.undo();
        x.pass(60);
        Told before = Told.all(x);
        x.pass(200);
        x.set(1, 5);
        Due.due("undo()", x.undo(), 3);
        Due.due("undo()", x.undo(), 2);
        Told.all(x).isAs("undone", before);
    }

    public static void main(String[] args) {
        atMostFourStates();
        undoAndActsInTurn();
        undoOfAnEmptyHistory();
        actsAreRecorded();
        othersAreNotRecorded();
        errorsAndNoneAreNotRecorded();
        changesToTheSameAreRecorded();
        oneSnapshot();
        theSnapshotStays();
        notTheText();
        notTheHistory();
        notTheSnapshot();
        everythingElse();
        Due.end();
    }
}
