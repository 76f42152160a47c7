/** Terms, TIME: a test for each sentence that names an edge. */
public final class TimeEdgesTest {
    private static final int DAY = 48;

    private static LampChanger at(int dusk, int dawn, int tick) {
        LampChanger x = new LampChanger();
        x.setNight(dusk, dawn);
        Due.pass(x, tick);
        return x;
    }

    private static void theTickIsZeroAtFirst() {
        Due.sentence("the tick is 0 at first");
        LampChanger x = new LampChanger();
        Due.due("count(0)", x.count(0), 0);
        Due.due("keep()", x.keep(), 0);
    }

    private static void aDayHas48Ticks() {
        Due.sentence("A day has 48 ticks; the place of a tick in its day is its number modulo 48");
        int[] days = {0, 1, 2, 207, 2078};
        for (int day : days) {
            int first = day * DAY;
            Due.due("the first tick of day " + day, at(0, 1, first).wheel(4), 1);
            Due.due("the second tick of day " + day, at(0, 1, first + 1).wheel(4), 0);
            Due.due("the 47th tick of day " + day, at(47, 0, first + 46).wheel(4), 0);
            Due.due("the last tick of day " + day, at(47, 0, first + 47).wheel(4), 1);
            Due.due("the tick behind day " + day, at(47, 0, first + 48).wheel(4), 0);
        }
    }

    private static void duskAndDawnAtFirst() {
        Due.sentence("dusk (at first 36) and dawn (at first 12)");
        LampChanger x = new LampChanger();
        Due.due("wheel(6)", x.wheel(6), 36);
        Due.due("wheel(7)", x.wheel(7), 12);
        Due.due("dark ticks of a day", x.pass(48), 24);
    }

    private static void duskAndDawnAreNotTheSame() {
        Due.sentence("dusk and dawn, which are not the same");
        LampChanger x = new LampChanger();
        for (int place = 0; place < DAY; place++) {
            Due.due("setNight(" + place + ", " + place + ")", x.setNight(place, place), Due.BAD_VALUE);
        }
        Due.due("wheel(6)", x.wheel(6), 36);
        Due.due("wheel(7)", x.wheel(7), 12);
    }

    /** The places of the night, found by going round from dusk on, step by step. */
    private static boolean[] night(int dusk, int dawn) {
        boolean[] night = new boolean[DAY];
        for (int place = dusk; place != dawn; place = place == DAY - 1 ? 0 : place + 1) {
            night[place] = true;
        }
        return night;
    }

    private static void everyNight() {
        Due.sentence("A tick is in the night if, going round from dusk on, its place comes before dawn");
        for (int dusk = 0; dusk < DAY; dusk++) {
            for (int dawn = 0; dawn < DAY; dawn++) {
                if (dusk == dawn) {
                    continue;
                }
                LampChanger x = at(dusk, dawn, 0);
                boolean[] night = night(dusk, dawn);
                for (int place = 0; place < DAY; place++) {
                    String tick = "night " + dusk + " to " + dawn + ", tick " + place;
                    Due.due(tick + ", wheel(4)", x.wheel(4), night[place] ? 1 : 0);
                    Due.due(tick + ", dark", x.pass(1), night[place] ? 1 : 0);
                }
            }
        }
    }

    private static void duskIsInTheNightDawnIsNot() {
        Due.sentence("dusk is in the night, dawn is not");
        int[][] nights = {{36, 12}, {12, 36}, {0, 47}, {47, 0}, {0, 1}, {1, 0}, {46, 47}, {47, 46}};
        for (int[] n : nights) {
            String night = "night " + n[0] + " to " + n[1] + ", ";
            Due.due(night + "dusk", at(n[0], n[1], n[0]).wheel(4), 1);
            Due.due(night + "the tick before dusk", at(n[0], n[1], n[0] + 47).wheel(4), 0);
            Due.due(night + "dawn", at(n[0], n[1], n[1]).wheel(4), 0);
            Due.due(night + "the tick before dawn", at(n[0], n[1], n[1] + 47).wheel(4), 1);
        }
    }

    private static void theLengthOfANight() {
        Due.sentence("Returns how many ticks a night has");
        for (int dusk = 0; dusk < DAY; dusk++) {
            for (int dawn = 0; dawn < DAY; dawn++) {
                LampChanger x = new LampChanger();
                int ticks = x.setNight(dusk, dawn);
                if (ticks >= 0) {
                    Due.due("setNight(" + dusk + ", " + dawn + ")", ticks, x.pass(48));
                } else {
                    boolean asItIs = dusk == 36 && dawn == 12;
                    Due.due("setNight(" + dusk + ", " + dawn + ")", ticks, asItIs ? Due.NONE : Due.BAD_VALUE);
                    Due.holds("refused at " + dusk + ", " + dawn, asItIs || dusk == dawn);
                }
            }
        }
    }

    public static void main(String[] args) {
        theTickIsZeroAtFirst();
        aDayHas48Ticks();
        duskAndDawnAtFirst();
        duskAndDawnAreNotTheSame();
        everyNight();
        duskIsInTheNightDawnIsNot();
        theLengthOfANight();
        Due.end();
    }
}
