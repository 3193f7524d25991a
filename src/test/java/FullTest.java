import java.util.function.ToLongFunction;

/** What is full: 8 lines, 16 traps, the day 10000, 100 bytes of text, 5 states of the history. */
public final class FullTest {
    private static final Check CHECK = new Check("FullTest");

    public static void main(String[] args) {
        promise3EightLines();
        promise3RoomAfterUndo();
        promise4SixteenTraps();
        promise4SixteenTrapsOnTwoLines();
        promise4RoomAfterUndo();
        promise13TheDay10000();
        promise13RoomAfterUndo();
        promise30AHundredBytes();
        promise30RoomAfterClearText();
        promise29FiveStates();
        promise29TheOldestIsDropped();
        promise29AgainAndAgain();
        promise29EachMethodDropsTheOldest();
        promise29AllOfAFullPlantComesBack();
        theLastOf512Calls();
        CHECK.end();
    }

    /** "FULL if there are 8 lines". */
    private static void promise3EightLines() {
        CHECK.records(() -> Build.lines(6), "addLine(0), the seventh", 6, s -> s.addLine(0));
        CHECK.records(() -> Build.lines(7), "addLine(0), the eighth", 7, s -> s.addLine(0));
        for (int header = 0; header <= 2; header++) {
            int one = header;
            CHECK.answers(() -> Build.lines(8), "addLine(" + one + "), the ninth", Check.FULL, s -> s.addLine(one));
        }
    }

    private static void promise3RoomAfterUndo() {
        TrapSurvey x = Build.lines(8);
        CHECK.due("addLine(2), the ninth", Check.FULL, x.addLine(2));
        CHECK.due("undo()", 4, x.undo());
        CHECK.due("count(0)", 7, x.count(0));
        CHECK.due("addLine(2), the eighth again", 7, x.addLine(2));
        CHECK.due("headerOf(7)", 2, x.headerOf(7));
        CHECK.due("addLine(2), the ninth again", Check.FULL, x.addLine(2));
    }

    /** "FULL if there are 16 traps". */
    private static void promise4SixteenTraps() {
        CHECK.records(() -> Build.traps(14, 1), "addTrap, the fifteenth", 14, s -> s.addTrap(0, 0, 1, 0, 0));
        CHECK.records(() -> Build.traps(15, 1), "addTrap, the sixteenth", 15, s -> s.addTrap(0, 0, 1, 0, 0));
        CHECK.answers(() -> Build.traps(16, 1), "addTrap, the seventeenth", Check.FULL, s -> s.addTrap(0, 0, 1, 0, 0));
    }

    /** The 16 traps are those of the plant, not those of a line. */
    private static void promise4SixteenTrapsOnTwoLines() {
        CHECK.records(() -> Build.traps(15, 2), "addTrap, the sixteenth", 15, s -> s.addTrap(1, 2, 9, 50, 50));
        CHECK.answers(() -> Build.traps(16, 2), "addTrap on the line 0", Check.FULL, s -> s.addTrap(0, 0, 1, 0, 0));
        CHECK.answers(() -> Build.traps(16, 2), "addTrap on the line 1", Check.FULL, s -> s.addTrap(1, 0, 1, 0, 0));
        CHECK.answers(() -> Build.traps(16, 8), "addTrap on the line 7", Check.FULL, s -> s.addTrap(7, 0, 1, 0, 0));
        CHECK.records(() -> Build.traps(16, 7), "addLine(0), full of traps", 7, s -> s.addLine(0));
    }

    private static void promise4RoomAfterUndo() {
        TrapSurvey x = Build.traps(16, 1);
        CHECK.due("addTrap, the seventeenth", Check.FULL, x.addTrap(0, 0, 1, 0, 0));
        CHECK.due("undo()", 4, x.undo());
        CHECK.due("addTrap, the sixteenth again", 15, x.addTrap(0, 2, 8, 9, 10));
        CHECK.due("trap(15, 2)", 8, x.trap(15, 2));
        CHECK.due("addTrap, the seventeenth again", Check.FULL, x.addTrap(0, 0, 1, 0, 0));
    }

    private static TrapSurvey onDay(int day) {
        return Build.onDay(Build.plant(), day);
    }

    /** "FULL if it would be above 10000". */
    private static void promise13TheDay10000() {
        CHECK.records(() -> onDay(9999), "pass(1) on day 9999", 10000, s -> s.pass(1));
        CHECK.answers(() -> onDay(9999), "pass(2) on day 9999", Check.FULL, s -> s.pass(2));
        CHECK.records(() -> onDay(9899), "pass(100) on day 9899", 9999, s -> s.pass(100));
        CHECK.records(() -> onDay(9900), "pass(100) on day 9900", 10000, s -> s.pass(100));
        CHECK.answers(() -> onDay(9901), "pass(100) on day 9901", Check.FULL, s -> s.pass(100));
        CHECK.records(() -> onDay(9901), "pass(99) on day 9901", 10000, s -> s.pass(99));
        CHECK.answers(() -> onDay(10000), "pass(1) on day 10000", Check.FULL, s -> s.pass(1));
        CHECK.answers(() -> onDay(10000), "pass(100) on day 10000", Check.FULL, s -> s.pass(100));
        CHECK.answers(() -> onDay(10000), "count(5) on day 10000", 10000, s -> s.count(5));
    }

    private static void promise13RoomAfterUndo() {
        TrapSurvey x = onDay(10000);
        CHECK.due("pass(1)", Check.FULL, x.pass(1));
        CHECK.due("undo()", 4, x.undo());
        CHECK.due("count(5)", 9900, x.count(5));
        CHECK.due("pass(99)", 9999, x.pass(99));
        CHECK.due("pass(2)", Check.FULL, x.pass(2));
        CHECK.due("pass(1)", 10000, x.pass(1));
    }

    /** "FULL if the text has 100 bytes". */
    private static void promise30AHundredBytes() {
        for (int code : new int[] {0, 32, 48, 59, 255}) {
            TrapSurvey x = Build.typed(Build.plant(), " ".repeat(98));
            CHECK.due("type(" + code + "), the ninety-ninth", 99, x.type(code));
            CHECK.due("type(" + code + "), the hundredth", 100, x.type(code));
            CHECK.due("type(" + code + "), one more", Check.FULL, x.type(code));
            CHECK.due("type(" + code + "), once more", Check.FULL, x.type(code));
            CHECK.due("clearText()", 100, x.clearText());
            CHECK.answers(() -> Build.typed(Build.plant(), " ".repeat(95) + "0:1/1"), "type(" + code + "), full",
                    Check.FULL, s -> s.type(code));
        }
    }

    private static void promise30RoomAfterClearText() {
        TrapSurvey x = Build.typed(Build.plant(), "x".repeat(100));
        CHECK.due("type(48)", Check.FULL, x.type(48));
        CHECK.due("clearText()", 100, x.clearText());
        for (int length = 1; length <= 100; length++) {
            CHECK.due("type(49) no. " + length, length, x.type(49));
        }
        CHECK.due("type(49) no. 101", Check.FULL, x.type(49));
        CHECK.due("textFault() of ones", 0, x.textFault());
    }

    /** "A history of at most 5 states is kept". */
    private static void promise29FiveStates() {
        for (int calls = 0; calls <= 7; calls++) {
            TrapSurvey x = new TrapSurvey();
            for (int price = 1; price <= calls; price++) {
                x.setWork(1, price, 1);
            }
            int states = 0;
            while (states < 8 && x.undo() >= 0) {
                states++;
            }
            CHECK.due("the states after " + calls + " calls", Math.min(calls, 5), states);
        }
    }

    /** "when one more is recorded, the oldest one is dropped". */
    private static void promise29TheOldestIsDropped() {
        TrapSurvey five = new TrapSurvey();
        TrapSurvey six = new TrapSurvey();
        for (int pressure = 1; pressure <= 5; pressure++) {
            five.setPressure(2, pressure);
            six.setPressure(2, pressure);
        }
        six.setPressure(2, 6);
        int[] ofFive = {4, 3, 2, 1, 10};
        int[] ofSix = {5, 4, 3, 2, 1};
        for (int undone = 0; undone < 5; undone++) {
            CHECK.due("undo() of five", 4 - undone, five.undo());
            CHECK.due("pressure(2) of five", ofFive[undone], five.pressure(2));
            CHECK.due("undo() of six", 4 - undone, six.undo());
            CHECK.due("pressure(2) of six", ofSix[undone], six.pressure(2));
        }
        CHECK.due("undo() of five, empty", Check.BAD_STATE, five.undo());
        CHECK.due("undo() of six, empty", Check.BAD_STATE, six.undo());
        CHECK.due("pressure(2) of five at last", 10, five.pressure(2));
        CHECK.due("pressure(2) of six at last", 1, six.pressure(2));
    }

    /** Filled, emptied by some, and filled again: the five latest ones are there, however often. */
    private static void promise29AgainAndAgain() {
        for (int undone = 1; undone <= 5; undone++) {
            TrapSurvey x = new TrapSurvey();
            for (int day = 1; day <= 7; day++) {
                x.pass(1);
            }
            for (int i = 1; i <= undone; i++) {
                CHECK.due("undo() no. " + i, 5 - i, x.undo());
            }
            for (int i = 0; i < 6; i++) {
                CHECK.due("pass(10) after " + undone + " undo()", 7 - undone + 10 * (i + 1), x.pass(10));
            }
            for (int left = 4; left >= 0; left--) {
                CHECK.due("undo()", left, x.undo());
                CHECK.due("count(5)", 7 - undone + 10 * (left + 1), x.count(5));
            }
            CHECK.due("undo(), empty", Check.BAD_STATE, x.undo());
        }
    }

    private static TrapSurvey fiveStates() {
        TrapSurvey x = Build.typed(Build.plant(), "3:200/190@20;4:90/90");
        for (int day = 1; day <= 5; day++) {
            x.pass(1);
        }
        return x;
    }

    private static void dropsTheOldest(String call, ToLongFunction<TrapSurvey> calling) {
        TrapSurvey x = fiveStates();
        calling.applyAsLong(x);
        for (int left = 4; left >= 0; left--) {
            CHECK.due("undo() after " + call, left, x.undo());
            CHECK.due("count(5) after it", left + 1, x.count(5));
        }
        CHECK.due("undo() after " + call + ", empty", Check.BAD_STATE, x.undo());
    }

    /** Each method that is recorded is recorded once, and so drops one state of five. */
    private static void promise29EachMethodDropsTheOldest() {
        dropsTheOldest("setPressure(0, 10)", s -> s.setPressure(0, 10));
        dropsTheOldest("addLine(0)", s -> s.addLine(0));
        dropsTheOldest("addTrap(0, 0, 1, 0, 0)", s -> s.addTrap(0, 0, 1, 0, 0));
        dropsTheOldest("moveLine(0, 0)", s -> s.moveLine(0, 0));
        dropsTheOldest("setWork(24, 20, 90)", s -> s.setWork(24, 20, 90));
        dropsTheOldest("read(0, 160, 100, 30)", s -> s.read(0, 160, 100, 30));
        dropsTheOldest("pass(1)", s -> s.pass(1));
        dropsTheOldest("repair(0)", s -> s.repair(0));
        dropsTheOldest("repairAll(0)", s -> s.repairAll(0));
        dropsTheOldest("repairAll(10000)", s -> s.repairAll(10000));
        dropsTheOldest("readAll()", TrapSurvey::readAll);
    }

    /** Also of the last header, the last line, and the last trap that there may be. */
    private static void promise29AllOfAFullPlantComesBack() {
        TrapSurvey x = Build.traps(16, 8);
        x.read(15, 300, 300, 60);
        x.pass(2);
        String before = Picture.of(x);
        x.setPressure(2, 19);
        x.moveLine(7, 0);
        x.pass(3);
        x.read(15, 300, 100, 1);
        CHECK.due("repairAll(10000)", 0, x.repairAll(10000));
        for (int left = 4; left >= 0; left--) {
            CHECK.due("undo()", left, x.undo());
        }
        CHECK.same("the full plant after undo()", before, Picture.of(x));
        CHECK.due("pressure(2)", 10, x.pressure(2));
        CHECK.due("headerOf(7)", 1, x.headerOf(7));
        CHECK.due("trap(15, 5)", 3, x.trap(15, 5));
        CHECK.due("lost(15)", 110 * 49 * 24 * 2, x.lost(15));
    }

    /** "An object is used for at most 512 calls after it has been made": the last one is answered too. */
    private static void theLastOf512Calls() {
        TrapSurvey recorded = new TrapSurvey();
        for (int call = 1; call <= 511; call++) {
            recorded.setPressure(call % 3, 1 + call % 20);
        }
        CHECK.due("undo(), the last call", 4, recorded.undo());
        TrapSurvey undone = new TrapSurvey();
        for (int call = 1; call <= 255; call++) {
            CHECK.due("addLine(0), call " + (2 * call - 1), 0, undone.addLine(0));
            CHECK.due("undo(), call " + 2 * call, 0, undone.undo());
        }
        CHECK.due("addLine(2), the last but one", 0, undone.addLine(2));
        CHECK.due("digest(), the last call", -5030414187519618102L, undone.digest());
    }
}
