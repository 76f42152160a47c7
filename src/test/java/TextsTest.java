/** Promises 11 (type) and 12 (clearText). */
public final class TextsTest {
    private static void promise11Type() {
        LampChanger x = new LampChanger();
        char[] any = {'5', ':', ' ', 0, 255, 256, 0xffff, 'x'};
        for (int i = 0; i < any.length; i++) {
            Due.due("type", x.type(any[i]), i + 1);
        }
        for (int i = any.length + 1; i <= 60; i++) {
            Due.due("type", x.type('1'), i);
        }
        Due.due("the 61st character", x.type('1'), Due.FULL);
        Due.due("length of the text", x.count(13), 60);
        Due.due("typing is no act", x.count(12), 0);
    }

    private static void promise11FullTextStays() {
        LampChanger x = new LampChanger();
        Due.type(x, "9:0x1,8:0x1,7:0x1,6:0x1,5:0x1,4:0x1,3:0x1,2:0x1,1:0x1,10:0x1");
        Due.due("length", x.count(13), 60);
        Due.due("one more", x.type('7'), Due.FULL);
        Due.due("readPlan", x.readPlan(), 10);
        Due.due("last tick", x.planned(9, 0), 10);
    }

    private static void promise12ClearText() {
        LampChanger x = new LampChanger();
        Due.due("an empty text", x.clearText(), 0);
        Due.type(x, "abc");
        Due.due("clearText", x.clearText(), 3);
        Due.due("length", x.count(13), 0);
        Due.due("clearText again", x.clearText(), 0);
        Due.due("type behind it", x.type('0'), 1);
        Due.type(x, ":2x4");
        Due.due("readPlan", x.readPlan(), 1);
        Due.due("clearText", x.clearText(), 5);
        Due.due("readPlan of an empty text", x.readPlan(), -100);
        Due.due("clearing is no act", x.count(12), 1);
    }

    private static void promise12UndoLeavesTheText() {
        LampChanger x = new LampChanger();
        x.stock(0, 1);
        x.keep();
        Due.type(x, "12");
        x.undo();
        Due.due("length after undo", x.count(13), 2);
        x.type('3');
        x.restore();
        Due.due("length after restore", x.count(13), 3);
    }

    public static void main(String[] args) {
        promise11Type();
        promise11FullTextStays();
        promise12ClearText();
        promise12UndoLeavesTheText();
        Due.end();
    }
}
