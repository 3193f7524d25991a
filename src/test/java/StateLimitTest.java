/**
 * Promises 11 and 12, 'Readings, states': each limit between two states, for each kind, on the limit
 * and on either side of it, by judge(), by read(), and by a text.
 */
public final class StateLimitTest {
    private static final Check CHECK = new Check("StateLimitTest");

    public static void main(String[] args) {
        unknownAtFirst();
        coldBelowHalfOfSaturation();
        coldIsTheFirstThatApplies();
        coldByThePressureOfItsHeader();
        pluggedFromFortyBelow();
        pluggedWithoutCyclesOnly();
        pluggedComesBeforeTheKinds();
        bucketByCycles();
        bucketWhateverTheOutlet();
        thermostaticByFiveAndFifteen();
        thermostaticWhateverTheCycles();
        discByCycles();
        discByTwo();
        discByBoth();
        dayOfTheReading();
        CHECK.end();
    }

    /** A trap on a header of a pressure, read on a new object each time. */
    private static void gives(int want, int kind, int pressure, int inlet, int outlet, int cycles) {
        String reading = "(0, " + inlet + ", " + outlet + ", " + cycles + ") of the kind " + kind + ", pressure "
                + pressure;
        TrapSurvey x = Build.oneTrap(kind, 1);
        x.setPressure(0, pressure);
        CHECK.due("judge" + reading, want, x.judge(0, inlet, outlet, cycles));
        CHECK.due("the state after judge" + reading, 0, x.trap(0, 5));
        CHECK.due("read" + reading, want, x.read(0, inlet, outlet, cycles));
        CHECK.due("the state after read" + reading, want, x.trap(0, 5));
        x.undo();
        Build.typed(x, "0:" + inlet + "/" + outlet + "@" + cycles);
        CHECK.due("readAll() of" + reading, 1, x.readAll());
        CHECK.due("the state after readAll() of" + reading, want, x.trap(0, 5));
    }

    /** "0 unknown (at first)". */
    private static void unknownAtFirst() {
        for (int kind = 0; kind < 3; kind++) {
            TrapSurvey x = Build.oneTrap(kind, 5);
            CHECK.due("trap(0, 5) of the kind " + kind, 0, x.trap(0, 5));
            CHECK.due("trap(0, 6) of the kind " + kind, Check.NONE, x.trap(0, 6));
            CHECK.due("inState(0)", 1, x.inState(0));
        }
    }

    /** "cold (5), if the inlet temperature is less than s / 2"; s is 106 to 220. */
    private static void coldBelowHalfOfSaturation() {
        int[] halves = {53, 56, 59, 62, 65, 68, 71, 74, 77, 80, 83, 86, 89, 92, 95, 98, 101, 104, 107, 110};
        for (int kind = 0; kind < 3; kind++) {
            for (int pressure = 1; pressure <= 20; pressure++) {
                int half = halves[pressure - 1];
                gives(Build.COLD, kind, pressure, half - 1, half - 30, 1);
                gives(Build.SOUND, kind, pressure, half, half - 30, 1);
                gives(Build.SOUND, kind, pressure, half + 1, half - 30, 1);
            }
            gives(Build.COLD, kind, 1, 0, 0, 0);
        }
    }

    /** "The state becomes the first of these that applies". */
    private static void coldIsTheFirstThatApplies() {
        for (int kind = 0; kind < 3; kind++) {
            gives(Build.COLD, kind, 10, 79, 39, 0);
            gives(Build.PLUGGED, kind, 10, 80, 40, 0);
            gives(Build.COLD, kind, 10, 79, 79, 60);
            gives(Build.BLOWN, kind, 10, 80, 80, 60);
            gives(Build.COLD, kind, 10, 79, 300, 0);
            gives(kind == 0 ? Build.SOUND : Build.BLOWN, kind, 10, 80, 300, 0);
        }
    }

    /** "100 plus 6 times the pressure of its header": of the one that its line belongs to now. */
    private static void coldByThePressureOfItsHeader() {
        TrapSurvey x = Build.oneTrap(Build.BUCKET, 1);
        x.setPressure(1, 1);
        x.setPressure(2, 20);
        CHECK.due("judge(0, 79, 60, 1) on the header 0", Build.COLD, x.judge(0, 79, 60, 1));
        CHECK.due("judge(0, 80, 60, 1) on the header 0", Build.SOUND, x.judge(0, 80, 60, 1));
        x.moveLine(0, 1);
        CHECK.due("judge(0, 52, 40, 1) on the header 1", Build.COLD, x.judge(0, 52, 40, 1));
        CHECK.due("judge(0, 53, 40, 1) on the header 1", Build.SOUND, x.judge(0, 53, 40, 1));
        x.moveLine(0, 2);
        CHECK.due("judge(0, 109, 90, 1) on the header 2", Build.COLD, x.judge(0, 109, 90, 1));
        CHECK.due("judge(0, 110, 90, 1) on the header 2", Build.SOUND, x.judge(0, 110, 90, 1));
    }

    /** "if .. the outlet temperature is at most the inlet temperature minus 40". */
    private static void pluggedFromFortyBelow() {
        for (int kind = 0; kind < 3; kind++) {
            for (int inlet : new int[] {80, 81, 160, 299, 300}) {
                gives(Build.PLUGGED, kind, 10, inlet, 0, 0);
                gives(Build.PLUGGED, kind, 10, inlet, inlet - 41, 0);
                gives(Build.PLUGGED, kind, 10, inlet, inlet - 40, 0);
                gives(Build.SOUND, kind, 10, inlet, inlet - 39, 0);
            }
        }
        gives(Build.PLUGGED, 0, 1, 53, 13, 0);
        gives(Build.SOUND, 0, 1, 53, 14, 0);
    }

    /** "plugged (4), if the cycles are 0". */
    private static void pluggedWithoutCyclesOnly() {
        for (int kind = 0; kind < 3; kind++) {
            gives(Build.PLUGGED, kind, 10, 160, 120, 0);
            gives(Build.SOUND, kind, 10, 160, 120, 1);
            gives(Build.SOUND, kind, 10, 160, 0, 1);
        }
    }

    /** Without cycles and 40 below no kind would be leaking or blown; 39 below it is not plugged. */
    private static void pluggedComesBeforeTheKinds() {
        gives(Build.PLUGGED, Build.BUCKET, 20, 300, 260, 0);
        gives(Build.SOUND, Build.BUCKET, 20, 300, 300, 0);
        gives(Build.PLUGGED, Build.THERMOSTATIC, 20, 300, 260, 0);
        gives(Build.BLOWN, Build.THERMOSTATIC, 20, 300, 300, 0);
        gives(Build.PLUGGED, Build.DISC, 20, 300, 260, 0);
        gives(Build.BLOWN, Build.DISC, 20, 300, 300, 0);
    }

    private static void givesByCycles(int want, int kind, int... cycles) {
        for (int number : cycles) {
            gives(want, kind, 10, 160, 130, number);
        }
    }

    /** "blown (3), if there are at least 30 cycles; leaking (2), if there are at least 15 cycles". */
    private static void bucketByCycles() {
        givesByCycles(Build.SOUND, Build.BUCKET, 0, 1, 13, 14);
        givesByCycles(Build.LEAKING, Build.BUCKET, 15, 16, 28, 29);
        givesByCycles(Build.BLOWN, Build.BUCKET, 30, 31, 59, 60);
    }

    private static void bucketWhateverTheOutlet() {
        for (int outlet : new int[] {0, 119, 120, 121, 144, 145, 154, 155, 157, 158, 160, 161, 300}) {
            gives(Build.SOUND, Build.BUCKET, 10, 160, outlet, 14);
            gives(Build.LEAKING, Build.BUCKET, 10, 160, outlet, 15);
            gives(Build.LEAKING, Build.BUCKET, 10, 160, outlet, 29);
            gives(Build.BLOWN, Build.BUCKET, 10, 160, outlet, 30);
        }
    }

    /** "at least the inlet temperature minus 5; leaking (2), if it is at least the inlet .. minus 15". */
    private static void thermostaticByFiveAndFifteen() {
        for (int inlet : new int[] {80, 160, 300}) {
            gives(Build.SOUND, Build.THERMOSTATIC, 10, inlet, inlet - 17, 1);
            gives(Build.SOUND, Build.THERMOSTATIC, 10, inlet, inlet - 16, 1);
            gives(Build.LEAKING, Build.THERMOSTATIC, 10, inlet, inlet - 15, 1);
            gives(Build.LEAKING, Build.THERMOSTATIC, 10, inlet, inlet - 14, 1);
            gives(Build.LEAKING, Build.THERMOSTATIC, 10, inlet, inlet - 6, 1);
            gives(Build.BLOWN, Build.THERMOSTATIC, 10, inlet, inlet - 5, 1);
            gives(Build.BLOWN, Build.THERMOSTATIC, 10, inlet, inlet - 4, 1);
            gives(Build.BLOWN, Build.THERMOSTATIC, 10, inlet, 300, 1);
        }
    }

    private static void thermostaticWhateverTheCycles() {
        for (int cycles : new int[] {0, 1, 14, 15, 19, 20, 29, 30, 39, 40, 60}) {
            gives(Build.SOUND, Build.THERMOSTATIC, 10, 160, 144, cycles);
            gives(Build.LEAKING, Build.THERMOSTATIC, 10, 160, 145, cycles);
            gives(Build.LEAKING, Build.THERMOSTATIC, 10, 160, 154, cycles);
            gives(Build.BLOWN, Build.THERMOSTATIC, 10, 160, 155, cycles);
        }
    }

    /** "blown (3), if there are at least 40 cycles ..; leaking (2), if there are at least 20 cycles". */
    private static void discByCycles() {
        givesByCycles(Build.SOUND, Build.DISC, 0, 1, 18, 19);
        givesByCycles(Build.LEAKING, Build.DISC, 20, 21, 38, 39);
        givesByCycles(Build.BLOWN, Build.DISC, 40, 41, 59, 60);
    }

    /** "or the outlet temperature is at least the inlet temperature minus 2". */
    private static void discByTwo() {
        for (int inlet : new int[] {80, 160, 300}) {
            for (int cycles : new int[] {0, 1, 19}) {
                gives(Build.SOUND, Build.DISC, 10, inlet, inlet - 4, cycles);
                gives(Build.SOUND, Build.DISC, 10, inlet, inlet - 3, cycles);
                gives(Build.BLOWN, Build.DISC, 10, inlet, inlet - 2, cycles);
                gives(Build.BLOWN, Build.DISC, 10, inlet, inlet - 1, cycles);
                gives(Build.BLOWN, Build.DISC, 10, inlet, 300, cycles);
            }
        }
    }

    private static void discByBoth() {
        gives(Build.LEAKING, Build.DISC, 10, 160, 157, 20);
        gives(Build.BLOWN, Build.DISC, 10, 160, 158, 20);
        gives(Build.LEAKING, Build.DISC, 10, 160, 157, 39);
        gives(Build.BLOWN, Build.DISC, 10, 160, 158, 39);
        gives(Build.BLOWN, Build.DISC, 10, 160, 157, 40);
        gives(Build.BLOWN, Build.DISC, 10, 160, 0, 40);
    }

    /** "The day of the reading is kept. Days are counted from 0; the day of a trap without a reading is NONE." */
    private static void dayOfTheReading() {
        TrapSurvey x = Build.oneTrap(Build.BUCKET, 1);
        CHECK.due("trap(0, 6) without a reading", Check.NONE, x.trap(0, 6));
        x.read(0, 160, 160, 1);
        CHECK.due("trap(0, 6), read on the first day", 0, x.trap(0, 6));
        x.pass(1);
        CHECK.due("trap(0, 6) a day later", 0, x.trap(0, 6));
        x.judge(0, 160, 160, 30);
        CHECK.due("trap(0, 6) after judge()", 0, x.trap(0, 6));
        x.read(0, 160, 160, 1);
        CHECK.due("trap(0, 6), read on the day 1", 1, x.trap(0, 6));
        Build.onDay(x, 10000);
        Build.typed(x, "0:160/160@15").readAll();
        CHECK.due("trap(0, 6), read on the last day", 10000, x.trap(0, 6));
    }
}
