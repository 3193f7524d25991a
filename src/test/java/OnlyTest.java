import java.util.Map;
import java.util.function.ToLongFunction;

/**
 * A call changes what the document tells of it, and nothing else: on a plant that has been in use, on
 * which a reading would be judged otherwise than on its day, with a text and a full history.
 */
public final class OnlyTest {
    private static final Check CHECK = new Check("OnlyTest");
    private static final String TEXT = "3:300/300@60; 1:300/100@1;3:300/300@29";

    public static void main(String[] args) {
        thePlantInUse();
        promise2SetPressure();
        promise3AddLine();
        promise4AddTrap();
        promise5MoveLine();
        promise6SetWork();
        promise11Read();
        promise13Pass();
        promise23Repair();
        promise24RepairAll();
        promise33ReadAll();
        promise29Undo();
        promise30And31TheTextAlone();
        questionsOnThePlant();
        questionsOnLosses();
        questionsOnRounds();
        CHECK.end();
    }

    /**
     * Of the plant of Build: trap 0 repaired twice and blown again, 1 cold, 2 blown, 3 never read, 4 sound.
     * Read now as they were, 0 and 4 would be cold, and 1 blown.
     */
    private static TrapSurvey inUse() {
        TrapSurvey survey = beforeTheLastDays();
        survey.pass(3);
        return survey;
    }

    private static TrapSurvey beforeTheLastDays() {
        TrapSurvey survey = Build.plant();
        survey.setWork(23, 22, 21);
        survey.pass(4);
        survey.repair(0);
        survey.read(0, 85, 80, 30);
        survey.repair(0);
        Build.typed(survey, TEXT);
        survey.pass(5);
        survey.read(0, 85, 80, 30);
        survey.read(4, 85, 60, 19);
        survey.read(1, 109, 109, 5);
        survey.setPressure(2, 6);
        survey.setPressure(0, 20);
        return survey;
    }

    private static void thePlantInUse() {
        String lost0 = "lost " + (990 * 92 + 1890 * 69);
        String lost2 = "lost " + (8910 * 92 + 8910 * 115 + 17010 * 69);
        CHECK.same("the plant in use", "counts 3 5 23 22 21 12 220 2 / header 20 / header 7 / header 6"
                + " / line 0 / line 2 / line 0 / trap 0 0 3 5 0 3 9 0 " + lost0
                + " / trap 1 1 2 5 10 5 9 2 lost " + (210 * 92 + 210 * 115)
                + " / trap 2 2 9 40 41 3 0 0 " + lost2 + " / trap 1 0 1 7 8 0 -1 2 lost 0"
                + " / trap 0 2 4 50 1 1 9 0 lost 0", Picture.of(inUse()));
        CHECK.due("judge(0, ..) as it was read", Build.COLD, inUse().judge(0, 85, 80, 30));
        CHECK.due("judge(4, ..) as it was read", Build.COLD, inUse().judge(4, 85, 60, 19));
        CHECK.due("judge(1, ..) as it was read", Build.BLOWN, inUse().judge(1, 109, 109, 5));
    }

    /** The answer, the facts that change, and a history that has one state more behind the older ones. */
    private static void changes(String call, long want, ToLongFunction<TrapSurvey> calling, String changes) {
        Map<String, Long> facts = Facts.of(inUse());
        Facts.change(facts, changes);
        TrapSurvey called = inUse();
        CHECK.due(call, want, calling.applyAsLong(called));
        CHECK.same("what there is after " + call, facts.toString(), Facts.of(called).toString());
        CHECK.due("textFault() after " + call, Check.NONE, called.textFault());
        TrapSurvey plain = inUse();
        for (int left = 4; left >= 0; left--) {
            CHECK.due("undo() after " + call, left, called.undo());
            CHECK.due("digest() after it", plain.digest(), called.digest());
            plain.undo();
        }
        CHECK.due("undo() after " + call + ", empty", Check.BAD_STATE, called.undo());
        CHECK.due("textFault() after undo() of " + call, Check.NONE, called.textFault());
        CHECK.due("clearText() after undo() of " + call, TEXT.length(), called.clearText());
    }

    /** "Sets the pressure of a header; the states of traps stay." */
    private static void promise2SetPressure() {
        changes("setPressure(0, 1)", 20, s -> s.setPressure(0, 1), "pressure 0 = 1");
        changes("setPressure(1, 20)", 7, s -> s.setPressure(1, 20), "pressure 1 = 20");
        changes("setPressure(2, 10)", 6, s -> s.setPressure(2, 10), "pressure 2 = 10");
        changes("setPressure(0, 20)", 20, s -> s.setPressure(0, 20), "");
    }

    /** "Adds a line." */
    private static void promise3AddLine() {
        changes("addLine(0)", 3, s -> s.addLine(0), "lines = 4, line 3 header = 0");
        changes("addLine(1)", 3, s -> s.addLine(1), "lines = 4, line 3 header = 1");
        changes("addLine(2)", 3, s -> s.addLine(2), "lines = 4, line 3 header = 2");
    }

    /** "Adds a trap, without a reading." */
    private static void promise4AddTrap() {
        changes("addTrap(2, 1, 5, 49, 48)", 5, s -> s.addTrap(2, 1, 5, 49, 48),
                "traps = 6, trap 5 line = 2, trap 5 kind = 1, trap 5 size = 5, trap 5 x = 49, trap 5 y = 48, "
                + "trap 5 state = 0, trap 5 read on = -1, trap 5 header = 0, trap 5 lost = 0");
        changes("addTrap(1, 0, 3, 5, 0), where a trap is", 5, s -> s.addTrap(1, 0, 3, 5, 0),
                "traps = 6, trap 5 line = 1, trap 5 kind = 0, trap 5 size = 3, trap 5 x = 5, trap 5 y = 0, "
                + "trap 5 state = 0, trap 5 read on = -1, trap 5 header = 2, trap 5 lost = 0");
    }

    /** "Moves a line to a header." Its traps go with it, as they are. */
    private static void promise5MoveLine() {
        changes("moveLine(0, 1)", 0, s -> s.moveLine(0, 1), "line 0 header = 1, trap 0 header = 1, trap 4 header = 1");
        changes("moveLine(0, 2)", 0, s -> s.moveLine(0, 2), "line 0 header = 2, trap 0 header = 2, trap 4 header = 2");
        changes("moveLine(1, 0)", 2, s -> s.moveLine(1, 0), "line 1 header = 0, trap 1 header = 0, trap 3 header = 0");
        changes("moveLine(2, 1)", 0, s -> s.moveLine(2, 1), "line 2 header = 1, trap 2 header = 1");
        changes("moveLine(1, 2)", 2, s -> s.moveLine(1, 2), "");
    }

    /** "Sets how the plant works." What was lost before stays. */
    private static void promise6SetWork() {
        changes("setWork(1, 1000, 400)", 23, s -> s.setWork(1, 1000, 400), "hours = 1, price = 1000, interval = 400");
        changes("setWork(24, 20, 90)", 23, s -> s.setWork(24, 20, 90), "hours = 24, price = 20, interval = 90");
        changes("setWork(23, 22, 21)", 23, s -> s.setWork(23, 22, 21), "");
    }

    /** "Reads a trap on the present day." What it has lost stays, and so do the other traps. */
    private static void promise11Read() {
        changes("read(0, 0, 0, 0)", 5, s -> s.read(0, 0, 0, 0), "trap 0 state = 5, trap 0 read on = 12");
        changes("read(0, 300, 300, 60)", 3, s -> s.read(0, 300, 300, 60), "trap 0 read on = 12");
        changes("read(2, 300, 0, 0)", 4, s -> s.read(2, 300, 0, 0), "trap 2 state = 4, trap 2 read on = 12");
        changes("read(3, 300, 0, 15)", 2, s -> s.read(3, 300, 0, 15), "trap 3 state = 2, trap 3 read on = 12");
        changes("read(4, 300, 0, 1)", 1, s -> s.read(4, 300, 0, 1), "trap 4 read on = 12");
    }

    private static String lostAfter(int days) {
        int lost0 = 990 * 92 + 1890 * 69 + 1890 * 23 * days;
        int lost2 = 8910 * 92 + 8910 * 115 + 17010 * 69 + 17010 * 23 * days;
        return ", trap 0 lost = " + lost0 + ", trap 2 lost = " + lost2;
    }

    /** "Lets days pass." States and days of readings stay. */
    private static void promise13Pass() {
        changes("pass(1)", 13, s -> s.pass(1), "day = 13" + lostAfter(1));
        changes("pass(21)", 33, s -> s.pass(21), "day = 33" + lostAfter(21));
        changes("pass(100)", 112, s -> s.pass(100), "day = 112" + lostAfter(100));
    }

    /** "A repair makes a trap sound, and adds its cost ..; the day of its latest reading and its lost steam stay." */
    private static void promise23Repair() {
        changes("repair(0), the third time", 110, s -> s.repair(0), "spent = 330, repairs = 3, trap 0 state = 1");
        changes("repair(1), cold", 90, s -> s.repair(1), "spent = 310, repairs = 3, trap 1 state = 1");
        changes("repair(2)", 120, s -> s.repair(2), "spent = 340, repairs = 3, trap 2 state = 1");
    }

    /** "as long as the sum of their costs is at most a budget": of these costs, whatever was spent before. */
    private static void promise24RepairAll() {
        String one = "spent = 340, repairs = 3, trap 2 state = 1";
        String two = "spent = 450, repairs = 4, trap 0 state = 1, trap 2 state = 1";
        changes("repairAll(0)", 0, s -> s.repairAll(0), "");
        changes("repairAll(119)", 0, s -> s.repairAll(119), "");
        changes("repairAll(120)", 1, s -> s.repairAll(120), one);
        changes("repairAll(229)", 1, s -> s.repairAll(229), one);
        changes("repairAll(230)", 2, s -> s.repairAll(230), two);
        changes("repairAll(10000)", 2, s -> s.repairAll(10000), two);
    }

    /** "Reads the traps of the text, in its order, on the present day .. The text stays." */
    private static void promise33ReadAll() {
        changes("readAll()", 3, TrapSurvey::readAll,
                "trap 1 state = 1, trap 1 read on = 12, trap 3 state = 2, trap 3 read on = 12");
    }

    /** "Removes and restores the latest state of the history": as it was, not as it would be judged now. */
    private static void promise29Undo() {
        TrapSurvey x = inUse();
        CHECK.due("undo()", 4, x.undo());
        CHECK.same("what there is after undo()", Facts.of(beforeTheLastDays()).toString(), Facts.of(x).toString());
        CHECK.due("clearText() after undo()", TEXT.length(), x.clearText());
    }

    /** "the whole state (all but the text)": the text is no part of the state, nor is the state of the text. */
    private static void promise30And31TheTextAlone() {
        TrapSurvey x = inUse();
        CHECK.due("type(59)", TEXT.length() + 1, x.type(';'));
        CHECK.due("clearText()", TEXT.length() + 1, x.clearText());
        CHECK.due("type(48)", 1, x.type('0'));
        CHECK.same("what there is after the text", Facts.of(inUse()).toString(), Facts.of(x).toString());
        TrapSurvey plain = inUse();
        for (int left = 4; left >= 0; left--) {
            CHECK.due("undo() after the text", left, x.undo());
            plain.undo();
            CHECK.due("digest() after it", plain.digest(), x.digest());
        }
        CHECK.due("clearText() after undo()", 1, x.clearText());
    }

    /** The same question has the same answer each time, and leaves all as it was. */
    private static void asks(String question, Check.OpenCall calling, int least, int most) {
        for (int value = least; value <= most; value++) {
            int asked = value;
            CHECK.answers(OnlyTest::inUse, question + " with " + value, calling.with(inUse(), value),
                    s -> calling.with(s, asked));
        }
    }

    private static void questionsOnThePlant() {
        asks("count(..)", TrapSurvey::count, 0, 7);
        asks("headerOf(..)", TrapSurvey::headerOf, 0, 2);
        asks("pressure(..)", TrapSurvey::pressure, 0, 2);
        asks("trap(0, ..)", (s, v) -> s.trap(0, v), 0, 7);
        asks("judge(.., 300, 0, 0)", (s, v) -> s.judge(v, 300, 0, 0), 0, 4);
        asks("judge(.., 0, 0, 0)", (s, v) -> s.judge(v, 0, 0, 0), 0, 4);
        asks("inState(..)", TrapSurvey::inState, 0, 5);
    }

    private static void questionsOnLosses() {
        asks("loss(..)", TrapSurvey::loss, 0, 4);
        asks("lineLoss(..)", TrapSurvey::lineLoss, 0, 2);
        asks("headerLoss(..)", TrapSurvey::headerLoss, 0, 2);
        asks("lost(..)", TrapSurvey::lost, -1, 4);
        asks("saves(..)", TrapSurvey::saves, 0, 4);
        asks("repairCost(..)", TrapSurvey::repairCost, 0, 4);
        asks("payback(..)", TrapSurvey::payback, 0, 4);
        asks("order(..)", TrapSurvey::order, 0, 2);
    }

    private static void questionsOnRounds() {
        asks("isDue(..)", TrapSurvey::isDue, 0, 4);
        asks("round(..)", TrapSurvey::round, 0, 4);
        asks("dueOn(..)", TrapSurvey::dueOn, 0, 4);
        asks("roundLength()", (s, v) -> s.roundLength(), 0, 0);
        asks("textFault()", (s, v) -> s.textFault(), 0, 0);
        asks("digest()", (s, v) -> s.digest(), 0, 0);
    }
}
