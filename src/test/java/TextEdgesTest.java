/** Terms, TEXTS, and promises 9, 11 and 12: a test for each sentence that names an edge. */
public final class TextEdgesTest {
    private static final String TEN_BOATS = "9:0x1,8:0x1,7:0x1,6:0x1,5:0x1,4:0x1,3:0x1,2:0x1,1:0x1,0:0x1";

    private static int read(String text) {
        LampChanger x = new LampChanger();
        return Due.read(x, text);
    }

    private static void fault(String text, int index) {
        Due.due("readPlan() of \"" + text + "\"", read(text), -100 - index);
    }

    private static void emptyAtFirst() {
        Due.sentence("empty at first");
        LampChanger x = new LampChanger();
        Due.due("length", x.count(13), 0);
        Due.due("readPlan()", x.readPlan(), -100);
        Due.due("clearText()", x.clearText(), 0);
    }

    private static void atMost60Characters() {
        Due.sentence("There is a text of at most 60 characters");
        LampChanger x = new LampChanger();
        for (int length = 1; length <= 60; length++) {
            Due.due("character " + length, x.type('0'), length);
            Due.due("length", x.count(13), length);
        }
        Due.due("the 61st", x.type('0'), Due.FULL);
        Due.due("the 61st again", x.type('1'), Due.FULL);
        Due.due("length", x.count(13), 60);
        Due.due("clearText()", x.clearText(), 60);
        Due.due("room again", x.type('0'), 1);
    }

    private static void the61stIsNotTyped() {
        Due.sentence("FULL if it has 60 characters");
        LampChanger x = new LampChanger();
        Due.type(x, TEN_BOATS.replace("0:0x1", "10:0x1"));
        Due.due("length", x.count(13), 60);
        Due.due("the 61st", x.type('2'), Due.FULL);
        Due.due("all ten boats", x.readPlan(), 10);
        Due.due("the last sign", x.planned(9, 2), 1);
    }

    private static void anyCharacter() {
        Due.sentence("character: any character");
        char[] signs = {0, 1, 31, 32, 127, 128, 255, 256, 0xd800, 0xfffe, 0xffff};
        LampChanger x = new LampChanger();
        for (int i = 0; i < signs.length; i++) {
            Due.due("character " + (int) signs[i], x.type(signs[i]), i + 1);
        }
        Due.due("readPlan()", x.readPlan(), -100);
    }

    /** Tries each sign behind the text: those that are named are allowed there, no other is. */
    private static void allowedBehind(String text, String allowed) {
        for (int sign = 0; sign < 400; sign++) {
            tryBehind(text, (char) sign, allowed);
        }
        for (int sign = 400; sign <= 0xffff; sign += 163) {
            tryBehind(text, (char) sign, allowed);
        }
        tryBehind(text, (char) 0xffff, allowed);
        tryBehind(text, (char) ('0' + 256), allowed);
        tryBehind(text, (char) ('x' + 256), allowed);
    }

    private static void tryBehind(String text, char sign, String allowed) {
        int faultAtSign = -100 - text.length();
        String asked = "readPlan() of \"" + text + "\" and sign " + (int) sign;
        if (allowed.indexOf(sign) < 0) {
            Due.due(asked, read(text + sign), faultAtSign);
        } else {
            int answer = read(text + sign);
            Due.holds(asked + ": no fault at the sign", answer >= 0 || answer == faultAtSign - 1);
        }
    }

    private static void ticksOfOneToFourDigits() {
        Due.sentence("a tick (one to four digits, without a zero in front unless it is the single digit 0)");
        allowedBehind("", "0123456789");
        allowedBehind("0", ":");
        allowedBehind("9", "0123456789:");
        allowedBehind("10", "0123456789:");
        allowedBehind("100", "0123456789:");
        allowedBehind("1000", ":");
        allowedBehind("9999", ":");
        allowedBehind("5:1x1,", "0123456789");
        allowedBehind("5:1x1,0", ":");
        allowedBehind("5:1x1,1234", ":");
        int[] ticks = {0, 1, 9, 10, 99, 100, 999, 1000, 9999};
        for (int tick : ticks) {
            LampChanger x = new LampChanger();
            Due.due("tick " + tick, Due.read(x, tick + ":0x1"), 1);
            Due.due("planned(0, 0)", x.planned(0, 0), tick);
        }
    }

    private static void aKind() {
        Due.sentence("\":\", a kind (0 to 2)");
        allowedBehind("5:", "012");
        allowedBehind("1234:", "012");
        allowedBehind("5:1x1,5:", "012");
        for (int kind = 0; kind <= 2; kind++) {
            LampChanger x = new LampChanger();
            Due.due("kind " + kind, Due.read(x, "7:" + kind + "x2"), 1);
            Due.due("planned(0, 1)", x.planned(0, 1), kind);
        }
    }

    private static void anX() {
        Due.sentence("\"x\", and a number");
        allowedBehind("5:0", "x");
        allowedBehind("5:2", "x");
        allowedBehind("5:1x1,5:2", "x");
    }

    private static void aNumber() {
        Due.sentence("a number (1 to 6)");
        allowedBehind("5:0x", "123456");
        allowedBehind("5:1x1,5:2x", "123456");
        for (int many = 1; many <= 6; many++) {
            LampChanger x = new LampChanger();
            Due.due("number " + many, Due.read(x, "7:1x" + many), 1);
            Due.due("planned(0, 2)", x.planned(0, 2), many);
        }
    }

    private static void oneOrMoreBoats() {
        Due.sentence("A text of a plan is one or more boats with \",\" between two");
        allowedBehind("5:0x1", ",");
        allowedBehind("5:0x1,6:2x6", ",");
        Due.due("one", read("5:0x1"), 1);
        Due.due("two", read("5:0x1,6:0x1"), 2);
        Due.due("ten", read(TEN_BOATS), 10);
        fault(",5:0x1", 0);
        fault("5:0x1,,6:0x1", 6);
        fault("5:0x1,", 6);
    }

    private static void theFirstFault() {
        Due.sentence("the index, from 0, of the first character that is not allowed at its place");
        fault("?", 0);
        fault("??", 0);
        fault("5:0x1,6:3x9", 8);
        fault("5:0x0,6:3x9", 4);
        fault("01:0x1", 1);
        fault("12345:0x1", 4);
        fault(TEN_BOATS + "?", 59);
        fault(TEN_BOATS.substring(0, 58) + "9", 58);
        fault("1" + TEN_BOATS.substring(0, 57) + "x?", 59);
    }

    private static void endsTooEarly() {
        Due.sentence("or the length of the text if it ends too early (the empty text does)");
        String text = "1234:1x3,0:2x6";
        for (int length = 0; length < text.length(); length++) {
            if (length == 8) {
                Due.due("a whole boat", read(text.substring(0, length)), 1);
            } else {
                fault(text.substring(0, length), length);
            }
        }
        Due.due("two whole boats", read(text), 2);
        fault(TEN_BOATS + ",", 60);
        fault(TEN_BOATS.substring(0, 58), 58);
    }

    private static void theTextStays() {
        Due.sentence("Makes the boats of the text, which stays, the plan");
        LampChanger x = new LampChanger();
        x.boat(77, 2, 2);
        Due.due("readPlan()", Due.read(x, "5:0x1"), 1);
        Due.due("the boat that was is gone", x.planned(0, 0), 5);
        Due.due("length", x.count(13), 5);
        Due.due("readPlan() again", x.readPlan(), 1);
        Due.due("and one more boat", typeAndRead(x, ",6:1x2"), 2);
        Due.due("a text with a fault stays, too", typeAndRead(x, "?"), -111);
        Due.due("length", x.count(13), 12);
        Due.due("the plan stays", x.count(11), 2);
    }

    private static int typeAndRead(LampChanger x, String behind) {
        Due.type(x, behind);
        return x.readPlan();
    }

    private static void theLastOfATickCounts() {
        Due.sentence("of several with one tick the last one counts");
        LampChanger x = new LampChanger();
        Due.due("three of one", Due.read(x, "5:0x1,5:1x2,5:2x3"), 1);
        Due.due("planned(0, 1)", x.planned(0, 1), 2);
        Due.due("planned(0, 2)", x.planned(0, 2), 3);
        Due.due("not one behind the other", Due.read(x, "5:2x3,4:1x2,5:0x1"), 2);
        Due.due("planned(1, 0)", x.planned(1, 0), 5);
        Due.due("planned(1, 1)", x.planned(1, 1), 0);
    }

    private static void alikeOnesCountOnce() {
        Due.sentence("FULL if there would be more than 10 (ticks that are alike count once)");
        LampChanger x = Beacons.tenBoats();
        Due.due("ten in place of ten", Due.read(x, TEN_BOATS), 10);
        Due.due("the first", x.planned(0, 0), 0);
        Due.due("ten with two alike", Due.read(x, TEN_BOATS.replace("9:0x1", "0:1x2")), 9);
        Due.due("the last one counts", x.planned(0, 1), 0);
        Due.due("one in place of nine", Due.read(x, "9999:2x6"), 1);
        Due.due("none behind it", x.planned(1, 0), Due.NONE);
    }

    private static void clearTextTellsTheLength() {
        Due.sentence("Returns the length that it had");
        int[] lengths = {0, 1, 59, 60};
        for (int length : lengths) {
            LampChanger x = new LampChanger();
            for (int i = 0; i < length; i++) {
                x.type(',');
            }
            Due.due("clearText()", x.clearText(), length);
            Due.due("clearText() again", x.clearText(), 0);
            Due.due("length", x.count(13), 0);
        }
    }

    public static void main(String[] args) {
        emptyAtFirst();
        atMost60Characters();
        the61stIsNotTyped();
        anyCharacter();
        ticksOfOneToFourDigits();
        aKind();
        anX();
        aNumber();
        oneOrMoreBoats();
        theFirstFault();
        endsTooEarly();
        theTextStays();
        theLastOfATickCounts();
        alikeOnesCountOnce();
        clearTextTellsTheLength();
        Due.end();
    }
}
