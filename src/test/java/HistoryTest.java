import java.util.function.Supplier;
import java.util.function.ToLongFunction;

/** Promise 29: undo, and which methods are recorded. */
public final class HistoryTest {
    private static final Check CHECK = new Check("HistoryTest");

    public static void main(String[] args) {
        promise29Undo();
        promise29FiveStates();
        promise29OldestIsDropped();
        promise29WholeStateComesBack();
        promise29WhatIsRecorded();
        promise29WhatIsNotRecorded();
        promise29TextStays();
        promise29GoingOnAfterUndo();
        CHECK.end();
    }

    private static void promise29Undo() {
        CHECK.answers(TrapSurvey::new, "undo() of a new object", Check.BAD_STATE, TrapSurvey::undo);
        TrapSurvey x = new TrapSurvey();
        x.addLine(2);
        CHECK.due("undo()", 0, x.undo());
        CHECK.due("count(0)", 0, x.count(0));
        CHECK.due("undo() again", Check.BAD_STATE, x.undo());
        CHECK.due("undo() once more", Check.BAD_STATE, x.undo());
    }

    private static void promise29FiveStates() {
        for (int calls = 1; calls <= 8; calls++) {
            TrapSurvey x = new TrapSurvey();
            for (int i = 0; i < calls; i++) {
                x.pass(1);
            }
            int kept = Math.min(calls, 5);
            for (int left = kept - 1; left >= 0; left--) {
                CHECK.due("undo() after pass(1) " + calls + " times", left, x.undo());
                CHECK.due("count(5) after it", calls - kept + left, x.count(5));
            }
            CHECK.due("undo() of an empty history", Check.BAD_STATE, x.undo());
            CHECK.due("count(5) after it", calls - kept, x.count(5));
        }
    }

    private static void promise29OldestIsDropped() {
        TrapSurvey x = new TrapSurvey();
        for (int pressure = 1; pressure <= 20; pressure++) {
            x.setPressure(1, pressure);
        }
        for (int pressure = 19; pressure >= 15; pressure--) {
            CHECK.due("undo()", pressure - 15, x.undo());
            CHECK.due("pressure(1)", pressure, x.pressure(1));
        }
        CHECK.due("undo() of an empty history", Check.BAD_STATE, x.undo());
        CHECK.due("pressure(1)", 15, x.pressure(1));
    }

    private static void promise29WholeStateComesBack() {
        TrapSurvey x = Build.plant();
        x.pass(3);
        x.repair(2);
        String before = Picture.of(x);
        x.setWork(1, 2, 3);
        x.moveLine(0, 1);
        x.read(0, 0, 0, 0);
        x.pass(4);
        x.repairAll(10000);
        CHECK.due("undo()", 4, x.undo());
        CHECK.due("undo()", 3, x.undo());
        CHECK.due("undo()", 2, x.undo());
        CHECK.due("undo()", 1, x.undo());
        CHECK.due("undo()", 0, x.undo());
        CHECK.same("the state five calls ago", before, Picture.of(x));
    }

    private static void isRecorded(String call, int want, ToLongFunction<TrapSurvey> calling) {
        Supplier<TrapSurvey> fresh = () -> Build.typed(Build.plant(), "3:200/190@20;4:90/90");
        CHECK.records(fresh, call, want, calling);
    }

    private static void promise29WhatIsRecorded() {
        isRecorded("setPressure(1, 7)", 7, s -> s.setPressure(1, 7));
        isRecorded("addLine(0)", 3, s -> s.addLine(0));
        isRecorded("addTrap(0, 0, 1, 1, 1)", 5, s -> s.addTrap(0, 0, 1, 1, 1));
        isRecorded("moveLine(0, 0)", 0, s -> s.moveLine(0, 0));
        isRecorded("setWork(24, 20, 90)", 24, s -> s.setWork(24, 20, 90));
        isRecorded("read(4, 160, 100, 19)", 1, s -> s.read(4, 160, 100, 19));
        isRecorded("pass(9)", 9, s -> s.pass(9));
        isRecorded("repair(0)", 110, s -> s.repair(0));
        isRecorded("repairAll(0)", 0, s -> s.repairAll(0));
        isRecorded("repairAll(230)", 2, s -> s.repairAll(230));
        isRecorded("readAll()", 2, TrapSurvey::readAll);
        CHECK.records(HistoryTest::readAlready, "readAll() that changes nothing", 2, TrapSurvey::readAll);
    }

    private static TrapSurvey readAlready() {
        TrapSurvey survey = Build.typed(Build.plant(), "3:200/190@20;4:90/90");
        survey.readAll();
        return survey;
    }

    private static void isNotRecorded(String call, ToLongFunction<TrapSurvey> calling) {
        TrapSurvey x = Build.oneTrap(Build.BUCKET, 1);
        calling.applyAsLong(x);
        CHECK.due("undo() after " + call, 1, x.undo());
        CHECK.due("count(1) after " + call, 0, x.count(1));
        CHECK.due("undo() once more after " + call, 0, x.undo());
        CHECK.due("count(0) after " + call, 0, x.count(0));
    }

    private static void promise29WhatIsNotRecorded() {
        isNotRecorded("type(48)", s -> s.type(48));
        isNotRecorded("clearText()", TrapSurvey::clearText);
        isNotRecorded("textFault()", TrapSurvey::textFault);
        isNotRecorded("readAll() with a fault", TrapSurvey::readAll);
        isNotRecorded("digest()", TrapSurvey::digest);
        isNotRecorded("judge(0, 160, 100, 30)", s -> s.judge(0, 160, 100, 30));
        isNotRecorded("order(0)", s -> s.order(0));
        isNotRecorded("round(0)", s -> s.round(0));
        isNotRecorded("roundLength()", TrapSurvey::roundLength);
        isNotRecorded("setPressure(0, 0)", s -> s.setPressure(0, 0));
        isNotRecorded("addLine(3)", s -> s.addLine(3));
        isNotRecorded("addTrap(0, 3, 1, 1, 1)", s -> s.addTrap(0, 3, 1, 1, 1));
        isNotRecorded("moveLine(0, 3)", s -> s.moveLine(0, 3));
        isNotRecorded("setWork(25, 20, 90)", s -> s.setWork(25, 20, 90));
        isNotRecorded("read(0, 301, 0, 0)", s -> s.read(0, 301, 0, 0));
        isNotRecorded("pass(0)", s -> s.pass(0));
        isNotRecorded("repair(0), unknown", s -> s.repair(0));
        isNotRecorded("repairAll(-1)", s -> s.repairAll(-1));
    }

    private static void promise29TextStays() {
        TrapSurvey x = Build.typed(new TrapSurvey(), "0:");
        x.addLine(0);
        x.addTrap(0, 0, 1, 0, 0);
        Build.typed(x, "160/100@15");
        CHECK.due("readAll()", 1, x.readAll());
        CHECK.due("undo()", 2, x.undo());
        CHECK.due("trap(0, 5)", 0, x.trap(0, 5));
        CHECK.due("textFault()", Check.NONE, x.textFault());
        CHECK.due("undo()", 1, x.undo());
        CHECK.due("textFault() without a trap", 0, x.textFault());
        CHECK.due("clearText()", 12, x.clearText());
        CHECK.due("undo()", 0, x.undo());
        CHECK.due("clearText() after undo()", 0, x.clearText());
    }

    private static void promise29GoingOnAfterUndo() {
        TrapSurvey x = Build.plant();
        x.pass(10);
        x.undo();
        x.undo();
        CHECK.due("count(5)", 0, x.count(5));
        CHECK.due("pass(20)", 20, x.pass(20));
        CHECK.due("pass(1)", 21, x.pass(1));
        CHECK.due("pass(1)", 22, x.pass(1));
        CHECK.due("undo()", 4, x.undo());
        CHECK.due("undo()", 3, x.undo());
        CHECK.due("undo()", 2, x.undo());
        CHECK.due("count(5)", 0, x.count(5));
        CHECK.due("trap(2, 5)", 3, x.trap(2, 5));
        CHECK.due("trap(4, 5)", 0, x.trap(4, 5));
        CHECK.due("undo()", 1, x.undo());
        CHECK.due("trap(2, 5)", 0, x.trap(2, 5));
    }
}
