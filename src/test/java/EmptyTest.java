import java.util.function.Supplier;

/** What is empty: no line, no trap, no trap with a loss, none that is due, no history, no text. */
public final class EmptyTest {
    private static final Check CHECK = new Check("EmptyTest");

    public static void main(String[] args) {
        noTrap();
        promise16LineWithoutTraps();
        promise22NoTrapWithALoss();
        promise24NoTrapWithALoss();
        promise21NoLoss();
        promise26NoTrapIsDue();
        promise27NoTrapIsDue();
        promise29EmptyHistory();
        promise29EmptyAgain();
        promise31EmptyText();
        promise32EmptyText();
        promise33EmptyText();
        CHECK.end();
    }

    /** A plant without lines, one with a line, and one with all lines: in none is a trap. */
    private static void noTrap() {
        hasNoTrap(TrapSurvey::new);
        hasNoTrap(Build::oneLine);
        hasNoTrap(Build::fullOfLines);
    }

    private static void hasNoTrap(Supplier<TrapSurvey> fresh) {
        CHECK.answers(fresh, "count(1)", 0, s -> s.count(1));
        CHECK.answers(fresh, "lost(-1)", 0, s -> s.lost(-1));
        for (int number = 0; number <= 2; number++) {
            int header = number;
            CHECK.answers(fresh, "headerLoss(" + header + ")", 0, s -> s.headerLoss(header));
        }
        for (int number = 0; number <= 5; number++) {
            int state = number;
            CHECK.answers(fresh, "inState(" + state + ")", 0, s -> s.inState(state));
        }
        CHECK.refuses(fresh, "order(..)", Check.NONE, TrapSurvey::order, 0, 1, 15, 16, Integer.MAX_VALUE);
        CHECK.refuses(fresh, "round(..)", Check.NONE, TrapSurvey::round, 0, 1, 15, 16, Integer.MAX_VALUE);
        CHECK.answers(fresh, "roundLength()", 0, TrapSurvey::roundLength);
        CHECK.records(fresh, "repairAll(0)", 0, s -> s.repairAll(0));
        CHECK.records(fresh, "repairAll(10000)", 0, s -> s.repairAll(10000));
        CHECK.records(fresh, "pass(1)", 1, s -> s.pass(1));
    }

    private static void promise16LineWithoutTraps() {
        for (int number = 0; number < 8; number++) {
            int line = number;
            CHECK.answers(Build::fullOfLines, "lineLoss(" + line + ")", 0, s -> s.lineLoss(line));
        }
    }

    /** Four traps: unknown, sound, plugged, cold. */
    private static TrapSurvey withoutLosses() {
        TrapSurvey survey = Build.oneLine();
        for (int trap = 0; trap < 4; trap++) {
            survey.addTrap(0, trap % 3, 9, 10 * trap, 0);
        }
        survey.read(1, 160, 144, 0);
        survey.read(2, 160, 120, 0);
        survey.read(3, 79, 79, 60);
        return survey;
    }

    /** "the traps with a loss"; "NONE if there are not so many". */
    private static void promise22NoTrapWithALoss() {
        CHECK.refuses(EmptyTest::withoutLosses, "order(..)", Check.NONE, TrapSurvey::order, 0, 1, 3, 4, 16);
        CHECK.answers(EmptyTest::withoutLosses, "order(-1)", Check.BAD_VALUE, s -> s.order(-1));
        TrapSurvey x = withoutLosses();
        x.read(3, 160, 160, 15);
        CHECK.due("order(0) with one loss", 3, x.order(0));
        CHECK.due("order(1) with one loss", Check.NONE, x.order(1));
    }

    /** Plugged and cold traps are not repaired by it, though a repair() would take them. */
    private static void promise24NoTrapWithALoss() {
        CHECK.records(EmptyTest::withoutLosses, "repairAll(0)", 0, s -> s.repairAll(0));
        CHECK.records(EmptyTest::withoutLosses, "repairAll(10000)", 0, s -> s.repairAll(10000));
        TrapSurvey x = withoutLosses();
        String before = Picture.of(x);
        x.repairAll(10000);
        CHECK.same("the plant after repairAll(10000)", before, Picture.of(x));
    }

    /** "there is none if its loss is 0". */
    private static void promise21NoLoss() {
        for (int number = 0; number < 4; number++) {
            int trap = number;
            CHECK.answers(EmptyTest::withoutLosses, "payback(" + trap + ")", Check.NONE, s -> s.payback(trap));
            CHECK.answers(EmptyTest::withoutLosses, "saves(" + trap + ")", 0, s -> s.saves(trap));
            CHECK.answers(EmptyTest::withoutLosses, "loss(" + trap + ")", 0, s -> s.loss(trap));
        }
        CHECK.answers(EmptyTest::withoutLosses, "lineLoss(0)", 0, s -> s.lineLoss(0));
        CHECK.answers(EmptyTest::withoutLosses, "headerLoss(1)", 0, s -> s.headerLoss(1));
        TrapSurvey x = withoutLosses();
        x.pass(100);
        CHECK.due("lost(-1) after 100 days", 0, x.lost(-1));
    }

    private static TrapSurvey allSound(int traps) {
        TrapSurvey survey = Build.oneLine();
        for (int trap = 0; trap < traps; trap++) {
            survey.addTrap(0, 0, 1, 50, 50);
            survey.read(trap, 160, 160, 14);
        }
        return survey;
    }

    /** "NONE if there are not so many". */
    private static void promise26NoTrapIsDue() {
        CHECK.refuses(() -> allSound(1), "round(..)", Check.NONE, TrapSurvey::round, 0, 1, 16);
        CHECK.refuses(() -> allSound(16), "round(..)", Check.NONE, TrapSurvey::round, 0, 1, 15, 16);
        CHECK.answers(() -> allSound(16), "round(-1)", Check.BAD_VALUE, s -> s.round(-1));
        TrapSurvey x = allSound(16);
        x.read(15, 160, 160, 15);
        CHECK.due("round(0) with one that is due", 15, x.round(0));
        CHECK.due("round(1) with one that is due", Check.NONE, x.round(1));
    }

    /** "0 if no trap is due". */
    private static void promise27NoTrapIsDue() {
        CHECK.answers(() -> allSound(1), "roundLength()", 0, TrapSurvey::roundLength);
        CHECK.answers(() -> allSound(16), "roundLength()", 0, TrapSurvey::roundLength);
        TrapSurvey x = allSound(16);
        x.read(15, 160, 160, 15);
        CHECK.due("roundLength() with one that is due", 200, x.roundLength());
    }

    /** "BAD_STATE if it is empty". */
    private static void promise29EmptyHistory() {
        CHECK.answers(TrapSurvey::new, "undo()", Check.BAD_STATE, TrapSurvey::undo);
        TrapSurvey x = Build.typed(new TrapSurvey(), "0:1/1");
        x.setPressure(3, 1);
        x.addTrap(0, 0, 1, 0, 0);
        x.pass(0);
        x.readAll();
        x.clearText();
        CHECK.due("undo() after refused calls and such that are not recorded", Check.BAD_STATE, x.undo());
    }

    private static void promise29EmptyAgain() {
        for (int calls = 1; calls <= 5; calls++) {
            TrapSurvey x = new TrapSurvey();
            for (int i = 0; i < calls; i++) {
                x.pass(1);
            }
            for (int left = calls - 1; left >= 0; left--) {
                CHECK.due("undo() of " + calls, left, x.undo());
            }
            CHECK.due("undo(), empty", Check.BAD_STATE, x.undo());
            CHECK.due("undo(), empty still", Check.BAD_STATE, x.undo());
            CHECK.due("count(5)", 0, x.count(5));
            CHECK.due("pass(2)", 2, x.pass(2));
            CHECK.due("undo() of one", 0, x.undo());
            CHECK.due("undo(), empty again", Check.BAD_STATE, x.undo());
        }
    }

    /** "Returns the length that it had". */
    private static void promise31EmptyText() {
        CHECK.answers(TrapSurvey::new, "clearText()", 0, TrapSurvey::clearText);
        TrapSurvey x = Build.typed(Build.plant(), "0");
        CHECK.due("clearText() of one byte", 1, x.clearText());
        CHECK.due("clearText() of none", 0, x.clearText());
    }

    /** "or its length with all blanks, if it ends too early (also if it is empty)". */
    private static void promise32EmptyText() {
        CHECK.answers(TrapSurvey::new, "textFault()", 0, TrapSurvey::textFault);
        CHECK.answers(Build::plant, "textFault()", 0, TrapSurvey::textFault);
        TrapSurvey x = Build.typed(Build.plant(), "0:1/1");
        x.clearText();
        CHECK.due("textFault() after clearText()", 0, x.textFault());
    }

    /** "BAD_STATE if the text has a fault": so has an empty one, and one of blanks. */
    private static void promise33EmptyText() {
        CHECK.answers(TrapSurvey::new, "readAll()", Check.BAD_STATE, TrapSurvey::readAll);
        CHECK.answers(Build::plant, "readAll()", Check.BAD_STATE, TrapSurvey::readAll);
        CHECK.answers(() -> Build.typed(Build.plant(), " "), "readAll() of a blank", Check.BAD_STATE,
                TrapSurvey::readAll);
        TrapSurvey x = Build.typed(Build.plant(), "0:1/1");
        x.clearText();
        CHECK.due("readAll() after clearText()", Check.BAD_STATE, x.readAll());
    }
}
