import java.util.ArrayList;
import java.util.List;
import java.util.function.Supplier;
import java.util.function.ToLongFunction;

/**
 * 'History, errors': a refused call returns the first error that applies, changes nothing, and is not
 * recorded; each is tried with an empty history, with one that has room, and with a full one.
 */
public final class RefusalTest {
    private static final Check CHECK = new Check("RefusalTest");

    public static void main(String[] args) {
        indexBeforeValue();
        indexBeforeState();
        indexBeforeFull();
        valueBeforeFull();
        errorBeforeNone();
        valueRefused();
        stateRefused();
        fullRefused();
        acceptedAfterARefusal();
        CHECK.end();
    }

    /** The lines 0 to 7, the traps 0 to 15 (of all states), and a full text without a fault. */
    private static TrapSurvey everythingFull() {
        TrapSurvey survey = Build.fullOfLines();
        for (int trap = 0; trap < 16; trap++) {
            survey.addTrap(trap % 8, trap % 3, 1 + trap % 9, trap, 2 * trap);
        }
        for (int trap = 0; trap < 15; trap++) {
            survey.read(trap, 200, 200 - 4 * trap, 4 * trap);
        }
        return Build.typed(survey, "15:200/100@30;0:0/0" + " ".repeat(81));
    }

    private static TrapSurvey emptyHistory() {
        TrapSurvey survey = everythingFull();
        return undoneFiveTimes(survey);
    }

    private static TrapSurvey undoneFiveTimes(TrapSurvey survey) {
        for (int i = 0; i < 5; i++) {
            survey.undo();
        }
        return survey;
    }

    /** A day that is just or nearly the last one, with an empty history. */
    private static TrapSurvey lateAndEmptyHistory(int day) {
        TrapSurvey survey = Build.onDay(Build.oneTrap(Build.BUCKET, 1), day);
        for (int pressure = 1; pressure <= 5; pressure++) {
            survey.setPressure(0, pressure);
        }
        return undoneFiveTimes(survey);
    }

    /** On one line the traps 0 (unknown) and 1 (sound), and a text with a fault; four states are kept. */
    private static TrapSurvey roomInTheHistory() {
        TrapSurvey survey = Build.oneLine();
        survey.addTrap(0, 0, 1, 1, 1);
        survey.addTrap(0, 1, 2, 3, 4);
        Build.bringInto(survey, 1, 1);
        return Build.typed(survey, "0:1/2;2:3/4");
    }

    private static List<Supplier<TrapSurvey>> plants() {
        List<Supplier<TrapSurvey>> all = new ArrayList<>();
        all.add(TrapSurvey::new);
        all.add(RefusalTest::roomInTheHistory);
        all.add(RefusalTest::emptyHistory);
        all.add(RefusalTest::everythingFull);
        all.add(Build::plant);
        return all;
    }

    /** The call is refused alike whatever the plant. */
    private static void refused(String call, long refusal, ToLongFunction<TrapSurvey> calling) {
        for (Supplier<TrapSurvey> fresh : plants()) {
            CHECK.answers(fresh, call, refusal, calling);
        }
    }

    /** "the first one in this order": BAD_INDEX, then BAD_VALUE. */
    private static void indexBeforeValue() {
        refused("setPressure(-1, 0)", Check.BAD_INDEX, s -> s.setPressure(-1, 0));
        refused("setPressure(3, 21)", Check.BAD_INDEX, s -> s.setPressure(3, 21));
        refused("addTrap(-1, 3, 1, 0, 0)", Check.BAD_INDEX, s -> s.addTrap(-1, 3, 1, 0, 0));
        refused("addTrap(8, -1, 1, 0, 0)", Check.BAD_INDEX, s -> s.addTrap(8, -1, 1, 0, 0));
        refused("addTrap(8, 0, 0, 0, 0)", Check.BAD_INDEX, s -> s.addTrap(8, 0, 0, 0, 0));
        refused("addTrap(8, 0, 10, 0, 0)", Check.BAD_INDEX, s -> s.addTrap(8, 0, 10, 0, 0));
        refused("addTrap(8, 0, 1, 51, 0)", Check.BAD_INDEX, s -> s.addTrap(8, 0, 1, 51, 0));
        refused("addTrap(8, 0, 1, 0, -1)", Check.BAD_INDEX, s -> s.addTrap(8, 0, 1, 0, -1));
        refused("trap(-1, -1)", Check.BAD_INDEX, s -> s.trap(-1, -1));
        refused("trap(16, 8)", Check.BAD_INDEX, s -> s.trap(16, 8));
        refused("read(-1, 301, 0, 0)", Check.BAD_INDEX, s -> s.read(-1, 301, 0, 0));
        refused("read(16, 0, 301, 0)", Check.BAD_INDEX, s -> s.read(16, 0, 301, 0));
        refused("read(16, 0, 0, 61)", Check.BAD_INDEX, s -> s.read(16, 0, 0, 61));
        refused("judge(-1, -1, 0, 0)", Check.BAD_INDEX, s -> s.judge(-1, -1, 0, 0));
        refused("judge(16, 0, -1, 0)", Check.BAD_INDEX, s -> s.judge(16, 0, -1, 0));
        refused("judge(16, 0, 0, -1)", Check.BAD_INDEX, s -> s.judge(16, 0, 0, -1));
    }

    /** BAD_INDEX, then BAD_STATE: a trap that is not there is not unknown. */
    private static void indexBeforeState() {
        refused("repair(-1)", Check.BAD_INDEX, s -> s.repair(-1));
        refused("repair(16)", Check.BAD_INDEX, s -> s.repair(16));
        CHECK.answers(TrapSurvey::new, "repair(0) without traps", Check.BAD_INDEX, s -> s.repair(0));
        CHECK.answers(Build::oneLine, "repair(0) without traps", Check.BAD_INDEX, s -> s.repair(0));
        CHECK.answers(RefusalTest::roomInTheHistory, "repair(2) of two", Check.BAD_INDEX, s -> s.repair(2));
    }

    /** BAD_INDEX, then FULL. */
    private static void indexBeforeFull() {
        refused("addLine(-1)", Check.BAD_INDEX, s -> s.addLine(-1));
        refused("addLine(3)", Check.BAD_INDEX, s -> s.addLine(3));
        refused("addTrap(-1, 0, 1, 0, 0)", Check.BAD_INDEX, s -> s.addTrap(-1, 0, 1, 0, 0));
        refused("addTrap(8, 0, 1, 0, 0)", Check.BAD_INDEX, s -> s.addTrap(8, 0, 1, 0, 0));
    }

    /** BAD_VALUE, then FULL. */
    private static void valueBeforeFull() {
        Supplier<TrapSurvey> full = RefusalTest::everythingFull;
        CHECK.answers(full, "addTrap(0, 3, 1, 0, 0)", Check.BAD_VALUE, s -> s.addTrap(0, 3, 1, 0, 0));
        CHECK.answers(full, "addTrap(7, -1, 1, 0, 0)", Check.BAD_VALUE, s -> s.addTrap(7, -1, 1, 0, 0));
        CHECK.answers(full, "addTrap(7, 0, 0, 0, 0)", Check.BAD_VALUE, s -> s.addTrap(7, 0, 0, 0, 0));
        CHECK.answers(full, "addTrap(7, 0, 10, 0, 0)", Check.BAD_VALUE, s -> s.addTrap(7, 0, 10, 0, 0));
        CHECK.answers(full, "addTrap(7, 0, 1, -1, 0)", Check.BAD_VALUE, s -> s.addTrap(7, 0, 1, -1, 0));
        CHECK.answers(full, "addTrap(7, 0, 1, 51, 0)", Check.BAD_VALUE, s -> s.addTrap(7, 0, 1, 51, 0));
        CHECK.answers(full, "addTrap(7, 0, 1, 0, -1)", Check.BAD_VALUE, s -> s.addTrap(7, 0, 1, 0, -1));
        CHECK.answers(full, "addTrap(7, 0, 1, 0, 51)", Check.BAD_VALUE, s -> s.addTrap(7, 0, 1, 0, 51));
        CHECK.refuses(full, "type(..)", Check.BAD_VALUE, TrapSurvey::type, -1, 256);
        CHECK.refuses(() -> Build.onDay(Build.plant(), 10000), "pass(..)", Check.BAD_VALUE, TrapSurvey::pass,
                Check.beyond(1, 100));
        CHECK.refuses(() -> Build.onDay(Build.plant(), 9950), "pass(..)", Check.BAD_VALUE, TrapSurvey::pass,
                Check.beyond(1, 100));
    }

    /** "NONE is returned only if no error applies". */
    private static void errorBeforeNone() {
        refused("order(-1)", Check.BAD_VALUE, s -> s.order(-1));
        refused("round(-1)", Check.BAD_VALUE, s -> s.round(-1));
        refused("payback(-1)", Check.BAD_INDEX, s -> s.payback(-1));
        refused("payback(16)", Check.BAD_INDEX, s -> s.payback(16));
        refused("trap(16, 6)", Check.BAD_INDEX, s -> s.trap(16, 6));
        refused("lost(-2)", Check.BAD_INDEX, s -> s.lost(-2));
        CHECK.answers(RefusalTest::roomInTheHistory, "payback(0), no loss", Check.NONE, s -> s.payback(0));
        CHECK.answers(RefusalTest::roomInTheHistory, "payback(2), no trap", Check.BAD_INDEX, s -> s.payback(2));
        CHECK.answers(RefusalTest::roomInTheHistory, "trap(0, 6), no reading", Check.NONE, s -> s.trap(0, 6));
        CHECK.answers(RefusalTest::roomInTheHistory, "trap(2, 6), no trap", Check.BAD_INDEX, s -> s.trap(2, 6));
    }

    /** BAD_VALUE of the arguments of the whole plant, whatever its state. */
    private static void valueRefused() {
        refused("setPressure(0, 0)", Check.BAD_VALUE, s -> s.setPressure(0, 0));
        refused("setPressure(2, 21)", Check.BAD_VALUE, s -> s.setPressure(2, 21));
        refused("setWork(0, 1, 1)", Check.BAD_VALUE, s -> s.setWork(0, 1, 1));
        refused("setWork(1, 1001, 1)", Check.BAD_VALUE, s -> s.setWork(1, 1001, 1));
        refused("setWork(1, 1, 401)", Check.BAD_VALUE, s -> s.setWork(1, 1, 401));
        refused("count(8)", Check.BAD_VALUE, s -> s.count(8));
        refused("pass(0)", Check.BAD_VALUE, s -> s.pass(0));
        refused("pass(101)", Check.BAD_VALUE, s -> s.pass(101));
        refused("inState(6)", Check.BAD_VALUE, s -> s.inState(6));
        refused("repairAll(-1)", Check.BAD_VALUE, s -> s.repairAll(-1));
        refused("repairAll(10001)", Check.BAD_VALUE, s -> s.repairAll(10001));
        refused("type(-1)", Check.BAD_VALUE, s -> s.type(-1));
        refused("type(256)", Check.BAD_VALUE, s -> s.type(256));
    }

    private static void stateRefused() {
        CHECK.answers(TrapSurvey::new, "undo()", Check.BAD_STATE, TrapSurvey::undo);
        CHECK.answers(RefusalTest::emptyHistory, "undo()", Check.BAD_STATE, TrapSurvey::undo);
        CHECK.answers(TrapSurvey::new, "readAll()", Check.BAD_STATE, TrapSurvey::readAll);
        CHECK.answers(RefusalTest::roomInTheHistory, "readAll()", Check.BAD_STATE, TrapSurvey::readAll);
        CHECK.answers(Build::plant, "readAll()", Check.BAD_STATE, TrapSurvey::readAll);
        CHECK.answers(RefusalTest::roomInTheHistory, "repair(0), unknown", Check.BAD_STATE, s -> s.repair(0));
        CHECK.answers(RefusalTest::roomInTheHistory, "repair(1), sound", Check.BAD_STATE, s -> s.repair(1));
        CHECK.answers(RefusalTest::everythingFull, "repair(15), unknown", Check.BAD_STATE, s -> s.repair(15));
        CHECK.answers(RefusalTest::emptyHistory, "repair(15), unknown", Check.BAD_STATE, s -> s.repair(15));
    }

    private static void fullRefused() {
        for (Supplier<TrapSurvey> fresh : List.<Supplier<TrapSurvey>>of(RefusalTest::everythingFull,
                RefusalTest::emptyHistory)) {
            CHECK.answers(fresh, "addLine(0)", Check.FULL, s -> s.addLine(0));
            CHECK.answers(fresh, "addTrap(7, 2, 9, 50, 50)", Check.FULL, s -> s.addTrap(7, 2, 9, 50, 50));
            CHECK.answers(fresh, "type(0)", Check.FULL, s -> s.type(0));
            CHECK.answers(fresh, "type(255)", Check.FULL, s -> s.type(255));
        }
        CHECK.answers(() -> Build.onDay(Build.plant(), 10000), "pass(1)", Check.FULL, s -> s.pass(1));
        CHECK.answers(() -> lateAndEmptyHistory(10000), "pass(1)", Check.FULL, s -> s.pass(1));
        CHECK.answers(() -> lateAndEmptyHistory(9901), "pass(100)", Check.FULL, s -> s.pass(100));
    }

    /** After refused calls of every method a run goes on as if they had not been. */
    private static void acceptedAfterARefusal() {
        TrapSurvey plain = Build.plant();
        TrapSurvey x = Build.plant();
        for (int i = 0; i < 3; i++) {
            x.setPressure(0, 0);
            x.addLine(3);
            x.addTrap(0, 0, 0, 0, 0);
            x.moveLine(3, 0);
            x.setWork(0, 0, 0);
            x.read(0, 301, 0, 0);
            x.pass(0);
            x.repair(3);
            x.repairAll(-1);
            x.readAll();
            x.type(256);
            CHECK.due("pass(5) after refused calls", plain.pass(5), x.pass(5));
            CHECK.due("digest() after refused calls", plain.digest(), x.digest());
        }
        for (int i = 0; i < 6; i++) {
            CHECK.due("undo() after refused calls", plain.undo(), x.undo());
            CHECK.due("digest() after undo()", plain.digest(), x.digest());
        }
        CHECK.due("clearText() after refused calls", 0, x.clearText());
    }
}
