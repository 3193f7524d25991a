/** Promises 11 to 14: readings, states, days. */
public final class ReadingTest {
    private static final Check CHECK = new Check("ReadingTest");

    public static void main(String[] args) {
        promise11Read();
        promise11ErrorsOfRead();
        promise12Judge();
        promise12ColdAndPlugged();
        promise12Bucket();
        promise12Thermostatic();
        promise12Disc();
        promise13Pass();
        promise13LastDay();
        promise14InState();
        CHECK.end();
    }

    private static void promise11Read() {
        TrapSurvey x = Build.oneTrap(Build.BUCKET, 1);
        CHECK.due("read(0, 300, 300, 60)", Build.BLOWN, x.read(0, 300, 300, 60));
        CHECK.due("trap(0, 5)", Build.BLOWN, x.trap(0, 5));
        CHECK.due("trap(0, 6)", 0, x.trap(0, 6));
        x.pass(17);
        CHECK.due("read(0, 0, 0, 0)", Build.COLD, x.read(0, 0, 0, 0));
        CHECK.due("trap(0, 5)", Build.COLD, x.trap(0, 5));
        CHECK.due("trap(0, 6)", 17, x.trap(0, 6));
        CHECK.due("lost(0)", 110 * 24 * 17, x.lost(0));
        CHECK.due("read(0, 80, 41, 0)", Build.SOUND, x.read(0, 80, 41, 0));
        CHECK.due("trap(0, 5)", Build.SOUND, x.trap(0, 5));
        CHECK.records(Build::plant, "read(3, 200, 180, 20)", Build.LEAKING, s -> s.read(3, 200, 180, 20));
        CHECK.records(Build::plant, "read(0, 160, 100, 30)", Build.BLOWN, s -> s.read(0, 160, 100, 30));
        TrapSurvey y = Build.plant();
        y.read(1, 0, 0, 0);
        CHECK.due("trap(0, 5), another trap", Build.BLOWN, y.trap(0, 5));
        CHECK.due("trap(3, 6), another trap", Check.NONE, y.trap(3, 6));
    }

    private static void promise11ErrorsOfRead() {
        CHECK.answers(Build::plant, "read(-1, ..)", Check.BAD_INDEX, s -> s.read(-1, 1, 1, 1));
        CHECK.answers(Build::plant, "read(5, ..)", Check.BAD_INDEX, s -> s.read(5, 1, 1, 1));
        CHECK.answers(Build::plant, "read(0, -1, 0, 0)", Check.BAD_VALUE, s -> s.read(0, -1, 0, 0));
        CHECK.answers(Build::plant, "read(0, 301, 0, 0)", Check.BAD_VALUE, s -> s.read(0, 301, 0, 0));
        CHECK.answers(Build::plant, "read(0, 0, -1, 0)", Check.BAD_VALUE, s -> s.read(0, 0, -1, 0));
        CHECK.answers(Build::plant, "read(0, 0, 301, 0)", Check.BAD_VALUE, s -> s.read(0, 0, 301, 0));
        CHECK.answers(Build::plant, "read(0, 0, 0, -1)", Check.BAD_VALUE, s -> s.read(0, 0, 0, -1));
        CHECK.answers(Build::plant, "read(0, 0, 0, 61)", Check.BAD_VALUE, s -> s.read(0, 0, 0, 61));
        CHECK.answers(Build::plant, "read(5, 301, -1, 61)", Check.BAD_INDEX, s -> s.read(5, 301, -1, 61));
        CHECK.answers(TrapSurvey::new, "read without traps", Check.BAD_INDEX, s -> s.read(0, 1, 1, 1));
    }

    private static void promise12Judge() {
        CHECK.answers(Build::plant, "judge(3, 200, 180, 20)", Build.LEAKING, s -> s.judge(3, 200, 180, 20));
        CHECK.answers(Build::plant, "judge(0, 300, 300, 60)", Build.BLOWN, s -> s.judge(0, 300, 300, 60));
        CHECK.answers(Build::plant, "judge(-1, ..)", Check.BAD_INDEX, s -> s.judge(-1, 1, 1, 1));
        CHECK.answers(Build::plant, "judge(5, ..)", Check.BAD_INDEX, s -> s.judge(5, 1, 1, 1));
        CHECK.answers(Build::plant, "judge(0, -1, 0, 0)", Check.BAD_VALUE, s -> s.judge(0, -1, 0, 0));
        CHECK.answers(Build::plant, "judge(0, 301, 0, 0)", Check.BAD_VALUE, s -> s.judge(0, 301, 0, 0));
        CHECK.answers(Build::plant, "judge(0, 0, -1, 0)", Check.BAD_VALUE, s -> s.judge(0, 0, -1, 0));
        CHECK.answers(Build::plant, "judge(0, 0, 301, 0)", Check.BAD_VALUE, s -> s.judge(0, 0, 301, 0));
        CHECK.answers(Build::plant, "judge(0, 0, 0, -1)", Check.BAD_VALUE, s -> s.judge(0, 0, 0, -1));
        CHECK.answers(Build::plant, "judge(0, 0, 0, 61)", Check.BAD_VALUE, s -> s.judge(0, 0, 0, 61));
        CHECK.answers(Build::plant, "judge(5, 301, 0, 0)", Check.BAD_INDEX, s -> s.judge(5, 301, 0, 0));
    }

    private static void judges(TrapSurvey x, int inlet, int outlet, int cycles, int want) {
        String call = "judge(0, " + inlet + ", " + outlet + ", " + cycles + ") of the kind " + x.trap(0, 1);
        CHECK.due(call, want, x.judge(0, inlet, outlet, cycles));
        CHECK.due("read instead of " + call, want, x.read(0, inlet, outlet, cycles));
        CHECK.due("trap(0, 5) after it", want, x.trap(0, 5));
    }

    private static void promise12ColdAndPlugged() {
        for (int kind = 0; kind < 3; kind++) {
            TrapSurvey x = Build.oneTrap(kind, 1);
            for (int pressure = 1; pressure <= 20; pressure++) {
                x.setPressure(0, pressure);
                judges(x, 50 + 3 * pressure - 1, 0, 0, Build.COLD);
                judges(x, 50 + 3 * pressure, 0, 0, Build.PLUGGED);
            }
            x.setPressure(0, 10);
            judges(x, 79, 300, 60, Build.COLD);
            judges(x, 160, 120, 0, Build.PLUGGED);
            judges(x, 160, 121, 0, Build.SOUND);
            judges(x, 160, 120, 1, Build.SOUND);
        }
    }

    private static void promise12Bucket() {
        TrapSurvey x = Build.oneTrap(Build.BUCKET, 1);
        judges(x, 160, 160, 0, Build.SOUND);
        judges(x, 160, 160, 14, Build.SOUND);
        judges(x, 160, 160, 15, Build.LEAKING);
        judges(x, 160, 100, 29, Build.LEAKING);
        judges(x, 160, 100, 30, Build.BLOWN);
        judges(x, 80, 300, 60, Build.BLOWN);
    }

    private static void promise12Thermostatic() {
        TrapSurvey x = Build.oneTrap(Build.THERMOSTATIC, 1);
        judges(x, 160, 300, 0, Build.BLOWN);
        judges(x, 160, 155, 0, Build.BLOWN);
        judges(x, 160, 154, 60, Build.LEAKING);
        judges(x, 160, 145, 0, Build.LEAKING);
        judges(x, 160, 144, 60, Build.SOUND);
        judges(x, 160, 0, 60, Build.SOUND);
    }

    private static void promise12Disc() {
        TrapSurvey x = Build.oneTrap(Build.DISC, 1);
        judges(x, 160, 100, 60, Build.BLOWN);
        judges(x, 160, 100, 40, Build.BLOWN);
        judges(x, 160, 100, 39, Build.LEAKING);
        judges(x, 160, 100, 20, Build.LEAKING);
        judges(x, 160, 100, 19, Build.SOUND);
        judges(x, 160, 157, 19, Build.SOUND);
        judges(x, 160, 158, 19, Build.BLOWN);
        judges(x, 160, 158, 0, Build.BLOWN);
        judges(x, 160, 157, 20, Build.LEAKING);
        judges(x, 160, 158, 39, Build.BLOWN);
    }

    private static void promise13Pass() {
        TrapSurvey x = Build.plant();
        CHECK.due("pass(1)", 1, x.pass(1));
        CHECK.due("pass(100)", 101, x.pass(100));
        CHECK.due("count(5)", 101, x.count(5));
        CHECK.due("lost(0)", 990L * 24 * 101, x.lost(0));
        CHECK.due("lost(1)", 210L * 24 * 101, x.lost(1));
        CHECK.due("lost(2)", 8910L * 24 * 101, x.lost(2));
        CHECK.due("lost(3)", 0, x.lost(3));
        CHECK.due("lost(4)", 0, x.lost(4));
        CHECK.due("trap(0, 6)", 0, x.trap(0, 6));
        x.setWork(7, 20, 90);
        x.setPressure(2, 3);
        x.pass(2);
        CHECK.due("lost(1) with other hours and pressure", 210L * 24 * 101 + 40 * 7 * 2, x.lost(1));
        CHECK.answers(Build::plant, "pass(0)", Check.BAD_VALUE, s -> s.pass(0));
        CHECK.answers(Build::plant, "pass(-1)", Check.BAD_VALUE, s -> s.pass(-1));
        CHECK.answers(Build::plant, "pass(101)", Check.BAD_VALUE, s -> s.pass(101));
        CHECK.records(Build::plant, "pass(7)", 7, s -> s.pass(7));
    }

    private static TrapSurvey atTheEnd() {
        return Build.onDay(Build.plant(), 10000);
    }

    private static TrapSurvey closeToTheEnd() {
        return Build.onDay(Build.plant(), 9950);
    }

    private static void promise13LastDay() {
        CHECK.answers(ReadingTest::atTheEnd, "pass(1) on the last day", Check.FULL, s -> s.pass(1));
        CHECK.answers(ReadingTest::atTheEnd, "pass(100) on the last day", Check.FULL, s -> s.pass(100));
        CHECK.answers(ReadingTest::atTheEnd, "pass(0) on the last day", Check.BAD_VALUE, s -> s.pass(0));
        CHECK.answers(ReadingTest::atTheEnd, "pass(101) on the last day", Check.BAD_VALUE, s -> s.pass(101));
        CHECK.answers(ReadingTest::closeToTheEnd, "pass(51) on day 9950", Check.FULL, s -> s.pass(51));
        CHECK.records(ReadingTest::closeToTheEnd, "pass(50) on day 9950", 10000, s -> s.pass(50));
    }

    private static void promise14InState() {
        TrapSurvey x = Build.plant();
        x.addTrap(0, Build.BUCKET, 1, 0, 0);
        x.addTrap(0, Build.BUCKET, 1, 0, 0);
        x.addTrap(0, Build.BUCKET, 1, 0, 0);
        x.read(5, 0, 0, 0);
        x.read(6, 0, 0, 0);
        x.read(7, 160, 0, 0);
        int[] want = {1, 1, 1, 2, 1, 2};
        for (int state = 0; state < want.length; state++) {
            CHECK.due("inState(" + state + ")", want[state], x.inState(state));
        }
        CHECK.answers(Build::fullOfTraps, "inState(0)", 16, s -> s.inState(0));
        CHECK.answers(Build::plant, "inState(5)", 0, s -> s.inState(5));
        CHECK.answers(Build::plant, "inState(3)", 2, s -> s.inState(3));
        CHECK.answers(Build::plant, "inState(-1)", Check.BAD_VALUE, s -> s.inState(-1));
        CHECK.answers(Build::plant, "inState(6)", Check.BAD_VALUE, s -> s.inState(6));
        CHECK.answers(TrapSurvey::new, "inState(0) without traps", 0, s -> s.inState(0));
    }
}
