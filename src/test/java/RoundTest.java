/** Promises 25 to 28: rounds. */
public final class RoundTest {
    private static final Check CHECK = new Check("RoundTest");

    public static void main(String[] args) {
        promise25IsDue();
        promise25Interval();
        promise26Round();
        promise26NearestFirst();
        promise26EqualWays();
        promise27RoundLength();
        promise28DueOn();
        CHECK.end();
    }

    private static void promise25IsDue() {
        CHECK.answers(Build::plant, "isDue(0), blown", 1, s -> s.isDue(0));
        CHECK.answers(Build::plant, "isDue(1), leaking", 1, s -> s.isDue(1));
        CHECK.answers(Build::plant, "isDue(3), unknown", 1, s -> s.isDue(3));
        CHECK.answers(Build::plant, "isDue(4), sound", 0, s -> s.isDue(4));
        CHECK.answers(Build::plant, "isDue(-1)", Check.BAD_INDEX, s -> s.isDue(-1));
        CHECK.answers(Build::plant, "isDue(5)", Check.BAD_INDEX, s -> s.isDue(5));
        CHECK.answers(TrapSurvey::new, "isDue(0) without traps", Check.BAD_INDEX, s -> s.isDue(0));
        TrapSurvey x = Build.plant();
        x.repair(0);
        CHECK.due("isDue(0) after its repair", 0, x.isDue(0));
        x.read(0, 0, 0, 0);
        CHECK.due("isDue(0), cold", 1, x.isDue(0));
        x.read(0, 160, 0, 0);
        CHECK.due("isDue(0), plugged", 1, x.isDue(0));
    }

    private static void promise25Interval() {
        TrapSurvey x = Build.plant();
        x.pass(89);
        CHECK.due("isDue(4) on day 89", 0, x.isDue(4));
        x.pass(1);
        CHECK.due("isDue(4) on day 90", 1, x.isDue(4));
        x.pass(1);
        CHECK.due("isDue(4) on day 91", 1, x.isDue(4));
        x.setWork(24, 20, 92);
        CHECK.due("isDue(4) with a longer interval", 0, x.isDue(4));
        x.repair(0);
        x.setWork(24, 20, 91);
        CHECK.due("isDue(0), repaired, but read long ago", 1, x.isDue(0));
        x.read(4, 160, 100, 1);
        x.setWork(24, 20, 1);
        CHECK.due("isDue(4) on the day of its reading", 0, x.isDue(4));
    }

    private static void promise26Round() {
        CHECK.answers(Build::plant, "round(0)", 0, s -> s.round(0));
        CHECK.answers(Build::plant, "round(1)", 1, s -> s.round(1));
        CHECK.answers(Build::plant, "round(2)", 3, s -> s.round(2));
        CHECK.answers(Build::plant, "round(3)", 2, s -> s.round(3));
        CHECK.answers(Build::plant, "round(4)", Check.NONE, s -> s.round(4));
        CHECK.answers(Build::plant, "round(2147483647)", Check.NONE, s -> s.round(Integer.MAX_VALUE));
        CHECK.answers(Build::plant, "round(-1)", Check.BAD_VALUE, s -> s.round(-1));
        CHECK.answers(TrapSurvey::new, "round(0) without traps", Check.NONE, s -> s.round(0));
        CHECK.answers(TrapSurvey::new, "round(-1) without traps", Check.BAD_VALUE, s -> s.round(-1));
        TrapSurvey x = Build.plant();
        x.pass(90);
        int[] want = {0, 1, 3, 4, 2};
        // From (7, 8) the way to (50, 1) is 50, and to (40, 41) it is 66.
        for (int i = 0; i < want.length; i++) {
            CHECK.due("round(" + i + ") of all", want[i], x.round(i));
        }
        CHECK.due("round(5) of all", Check.NONE, x.round(5));
    }

    /** Going on from the latest trap, not from the gate, and by both coordinates. */
    private static void promise26NearestFirst() {
        TrapSurvey x = Build.oneLine();
        x.addTrap(0, 0, 1, 30, 30);
        x.addTrap(0, 0, 1, 0, 25);
        x.addTrap(0, 0, 1, 20, 0);
        x.addTrap(0, 0, 1, 50, 0);
        x.addTrap(0, 0, 1, 26, 5);
        int[] want = {2, 4, 0, 1, 3};
        // 20, then 11, 29 (3 is 29 too: the lower number is first), 35, and 75.
        for (int i = 0; i < want.length; i++) {
            CHECK.due("round(" + i + ")", want[i], x.round(i));
        }
        CHECK.due("roundLength()", 20 + 11 + 29 + 35 + 75 + 50, x.roundLength());
        TrapSurvey full = Build.fullOfTraps();
        for (int i = 0; i < 16; i++) {
            CHECK.due("round(" + i + ") of 16", i, full.round(i));
        }
        CHECK.due("round(16) of 16", Check.NONE, full.round(16));
        CHECK.due("roundLength() of 16", 50 + 15 * 5 + 45 + 20, full.roundLength());
    }

    private static void promise26EqualWays() {
        TrapSurvey x = Build.oneLine();
        x.addTrap(0, 0, 1, 10, 10);
        x.addTrap(0, 0, 1, 0, 20);
        x.addTrap(0, 0, 1, 20, 0);
        x.addTrap(0, 0, 1, 10, 10);
        CHECK.due("round(0)", 0, x.round(0));
        CHECK.due("round(1)", 3, x.round(1));
        CHECK.due("round(2)", 1, x.round(2));
        CHECK.due("round(3)", 2, x.round(3));
        CHECK.due("roundLength()", 20 + 0 + 20 + 40 + 20, x.roundLength());
    }

    private static void promise27RoundLength() {
        CHECK.answers(TrapSurvey::new, "roundLength() without traps", 0, TrapSurvey::roundLength);
        CHECK.answers(Build::plant, "roundLength()", 5 + 10 + 4 + 66 + 81, TrapSurvey::roundLength);
        TrapSurvey x = Build.plant();
        x.repairAll(10000);
        CHECK.due("roundLength() to trap 3 only", 30, x.roundLength());
        x.read(3, 160, 160, 0);
        CHECK.due("roundLength(), no trap is due", 0, x.roundLength());
        CHECK.due("round(0), no trap is due", Check.NONE, x.round(0));
        x.pass(90);
        CHECK.due("roundLength(), all are due", 5 + 10 + 4 + 50 + 50 + 81, x.roundLength());
        TrapSurvey gate = Build.oneTrap(0, 1);
        CHECK.due("roundLength() to a trap at the gate", 0, gate.roundLength());
        CHECK.due("round(0) to a trap at the gate", 0, gate.round(0));
    }

    private static void promise28DueOn() {
        CHECK.answers(Build::plant, "dueOn(0), blown", 0, s -> s.dueOn(0));
        CHECK.answers(Build::plant, "dueOn(3), unknown", 0, s -> s.dueOn(3));
        CHECK.answers(Build::plant, "dueOn(4), sound", 90, s -> s.dueOn(4));
        CHECK.answers(Build::plant, "dueOn(-1)", Check.BAD_INDEX, s -> s.dueOn(-1));
        CHECK.answers(Build::plant, "dueOn(5)", Check.BAD_INDEX, s -> s.dueOn(5));
        CHECK.answers(TrapSurvey::new, "dueOn(0) without traps", Check.BAD_INDEX, s -> s.dueOn(0));
        TrapSurvey x = Build.plant();
        x.pass(7);
        x.read(4, 160, 100, 1);
        CHECK.due("dueOn(4), read on day 7", 97, x.dueOn(4));
        CHECK.due("dueOn(0), blown, on day 7", 7, x.dueOn(0));
        CHECK.due("dueOn(3), unknown, on day 7", 7, x.dueOn(3));
        x.pass(89);
        CHECK.due("dueOn(4) on day 96", 97, x.dueOn(4));
        x.pass(1);
        CHECK.due("dueOn(4) on day 97", 97, x.dueOn(4));
        x.pass(1);
        CHECK.due("dueOn(4) on day 98", 98, x.dueOn(4));
        x.setWork(24, 20, 400);
        CHECK.due("dueOn(4) with another interval", 407, x.dueOn(4));
        x.repair(0);
        CHECK.due("dueOn(0), repaired", 400, x.dueOn(0));
        TrapSurvey late = Build.onDay(Build.plant(), 10000);
        late.setWork(24, 20, 400);
        late.read(4, 160, 100, 1);
        CHECK.due("dueOn(4), read on the last day", 10400, late.dueOn(4));
    }
}
