/** Long runs of calls, made by a fixed rule, on the class and on the model; each answer is compared. */
public final class ModelTest {
    private static final int RUNS = 3000;
    /** Nothing is promised of later calls. */
    private static final int CALLS = 512;

    private static long seed;

    private static int upTo(int most) {
        seed = seed * 6364136223846793005L + 1442695040888963407L;
        return (int) ((seed >>> 33) % (most + 1));
    }

    private static int from(int lowest, int highest) {
        return lowest + upTo(highest - lowest);
    }

    private static LampChanger x;
    private static Model m;
    private static int run;
    private static int call;

    private static void same(String name, int a, int b, int c, int got, int want) {
        call++;
        Due.due("run " + run + ", call " + call + ": " + name + "(" + a + ", " + b + ", " + c + ")", got, want);
    }

    private static void change(int manner) {
        int a;
        int b;
        int c;
        switch (upTo(12)) {
            case 0 -> {
                a = from(-1, 4);
                b = a == 0 ? from(74, 100) : from(-1, 6);
                same("set", a, b, 0, x.set(a, b), m.set(a, b));
            }
            case 1 -> {
                a = from(-1, 48);
                b = upTo(9) == 0 ? a : from(-1, 48);
                same("setNight", a, b, 0, x.setNight(a, b), m.setNight(a, b));
            }
            case 2 -> {
                a = from(-1, 6);
                b = upTo(3) > 0 ? 2 : from(-1, 3);
                c = upTo(3) > 0 ? from(50, 70) : from(49, 151);
                same("putIn", a, b, c, x.putIn(a, b, c), m.putIn(a, b, c));
            }
            case 3 -> {
                a = from(-1, 6);
                same("takeOut", a, 0, 0, x.takeOut(a), m.takeOut(a));
            }
            case 4 -> {
                a = from(-1, 6);
                same("turnTo", a, 0, 0, x.turnTo(a), m.turnTo(a));
            }
            case 5 -> {
                a = manner == 1 ? 0 : from(-1, 3);
                b = manner == 1 ? 6 : from(0, 7);
                same("stock", a, b, 0, x.stock(a, b), m.stock(a, b));
            }
            case 6 -> {
                a = upTo(9) == 0 ? from(-1, 10001) : m.s.tick + from(-1, 90);
                b = from(-1, 3);
                c = from(0, 7);
                same("boat", a, b, c, x.boat(a, b, c), m.boat(a, b, c));
            }
            case 7 -> typePlan();
            case 8 -> same("readPlan", 0, 0, 0, x.readPlan(), m.readPlan());
            case 9 -> history();
            default -> {
                a = manner == 2 ? 200 : upTo(2) == 0 ? from(0, 201) : from(1, 12);
                same("pass", a, 0, 0, x.pass(a), m.pass(a));
            }
        }
    }

    private static void typePlan() {
        if (upTo(2) == 0) {
            same("clearText", 0, 0, 0, x.clearText(), m.clearText());
        }
        StringBuilder plan = new StringBuilder();
        int boats = from(1, 3);
        for (int i = 0; i < boats; i++) {
            plan.append(i > 0 || !m.text.isEmpty() ? "," : "").append((m.s.tick + upTo(100)) % 10500);
            plan.append(':').append(upTo(2)).append('x').append(from(1, 6));
        }
        if (upTo(3) == 0) {
            plan.setCharAt(upTo(plan.length() - 1), "0123456789:x,;X \u0100\uffff".charAt(upTo(17)));
        }
        if (upTo(5) == 0) {
            plan.setLength(upTo(plan.length()));
        }
        for (int i = 0; i < plan.length() && call < CALLS; i++) {
            char sign = plan.charAt(i);
            same("type", sign, 0, 0, x.type(sign), m.type(sign));
        }
    }

    private static void history() {
        switch (upTo(3)) {
            case 0 -> same("keep", 0, 0, 0, x.keep(), m.keep());
            case 1 -> same("restore", 0, 0, 0, x.restore(), m.restore());
            default -> same("undo", 0, 0, 0, x.undo(), m.undo());
        }
    }

    private static void tell() {
        int a = from(-1, 6);
        int b = from(-1, 8);
        int row = from(-1, 11);
        int what = from(-1, 3);
        switch (upTo(8)) {
            case 0, 1 -> same("lamp", a, b, 0, x.lamp(a, b), m.lamp(a, b));
            case 2 -> same("wheel", b, 0, 0, x.wheel(b), m.wheel(b));
            case 3 -> same("tiredIn", a, 0, 0, x.tiredIn(a), m.tiredIn(a));
            case 4 -> same("ranked", a, 0, 0, x.ranked(a), m.ranked(a));
            case 5 -> same("planned", row, what, 0, x.planned(row, what), m.planned(row, what));
            case 6 -> same("event", row, what, 0, x.event(row, what), m.event(row, what));
            case 7 -> {
                int number = from(-1, 14);
                same("count", number, 0, 0, x.count(number), m.count(number));
            }
            default -> {
                if (upTo(3) == 0) {
                    same("darkIn", 0, 0, 0, x.darkIn(), m.darkIn());
                } else {
                    same("setting", what, 0, 0, x.setting(what), m.setting(what));
                }
            }
        }
    }

    public static void main(String[] args) {
        for (run = 0; run < RUNS; run++) {
            seed = 1000003L * run + 17;
            x = new LampChanger();
            m = new Model();
            call = 0;
            while (call < CALLS) {
                if (upTo(2) == 0) {
                    change(run % 3);
                } else {
                    tell();
                }
            }
        }
        Due.end();
    }
}
