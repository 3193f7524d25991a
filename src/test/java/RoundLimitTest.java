/** Promises 25 to 28, 'Rounds': a reading that is just the interval old, and the ties of the round. */
public final class RoundLimitTest {
    private static final Check CHECK = new Check("RoundLimitTest");

    public static void main(String[] args) {
        promise25ByState();
        promise25JustTheIntervalOld();
        promise25OfARepairedTrap();
        promise26TieAtTheGate();
        promise26TieOnTheWay();
        promise26OneNearer();
        promise26JustTheIntervalOld();
        promise26FarthestPlace();
        promise27ThereAndBack();
        promise28JustTheIntervalOld();
        promise28OfARepairedTrap();
        promise28OnTheLastDay();
        CHECK.end();
    }

    /** "A trap is due .. if it has no reading, or its state is not sound". */
    private static void promise25ByState() {
        TrapSurvey x = Build.oneTrap(Build.BUCKET, 1);
        CHECK.due("isDue(0), unknown", 1, x.isDue(0));
        for (int state = 1; state <= 5; state++) {
            CHECK.due("read", state, Build.bringInto(x, 0, state));
            CHECK.due("isDue(0) in the state " + state, state == 1 ? 0 : 1, x.isDue(0));
            CHECK.due("round(0) in the state " + state, state == 1 ? Check.NONE : 0, x.round(0));
        }
    }

    private static TrapSurvey soundTrap(int interval) {
        TrapSurvey survey = Build.onDay(Build.oneTrap(Build.BUCKET, 1), 7);
        survey.setWork(24, 20, interval);
        survey.read(0, 160, 160, 14);
        return survey;
    }

    /** "or its reading is at least the interval, 1 to 400 days (90 at first), old". */
    private static void promise25JustTheIntervalOld() {
        for (int interval : new int[] {1, 2, 89, 90, 91, 399, 400}) {
            TrapSurvey x = soundTrap(interval);
            CHECK.due("isDue(0) on the day of the reading", 0, x.isDue(0));
            Build.onDay(x, 7 + interval - 1);
            CHECK.due("isDue(0), " + interval + " - 1 days old", 0, x.isDue(0));
            x.pass(1);
            CHECK.due("isDue(0), " + interval + " days old", 1, x.isDue(0));
            x.pass(1);
            CHECK.due("isDue(0), " + interval + " + 1 days old", 1, x.isDue(0));
        }
        TrapSurvey first = Build.oneTrap(Build.BUCKET, 1);
        first.read(0, 160, 160, 14);
        CHECK.due("isDue(0) on day 89 with the interval of a new object", 0, Build.onDay(first, 89).isDue(0));
        CHECK.due("isDue(0) on day 90 with the interval of a new object", 1, Build.onDay(first, 90).isDue(0));
    }

    /** "the day of its latest reading .. stay": a repair does not make the reading younger. */
    private static void promise25OfARepairedTrap() {
        TrapSurvey x = Build.oneTrap(Build.BUCKET, 1);
        x.read(0, 160, 160, 30);
        Build.onDay(x, 89);
        CHECK.due("isDue(0), blown", 1, x.isDue(0));
        x.repair(0);
        CHECK.due("isDue(0), repaired on day 89", 0, x.isDue(0));
        x.pass(1);
        CHECK.due("isDue(0), repaired, on day 90", 1, x.isDue(0));
    }

    private static TrapSurvey places(int... places) {
        TrapSurvey survey = Build.oneLine();
        for (int i = 0; i + 1 < places.length; i += 2) {
            survey.addTrap(0, 0, 1, places[i], places[i + 1]);
        }
        return survey;
    }

    private static void hasRound(String plant, TrapSurvey survey, int length, int... want) {
        for (int index = 0; index < want.length; index++) {
            CHECK.due("round(" + index + ") of " + plant, want[index], survey.round(index));
        }
        CHECK.due("round(" + want.length + ") of " + plant, Check.NONE, survey.round(want.length));
        CHECK.due("roundLength() of " + plant, length, survey.roundLength());
    }

    /** "of several the lowest number", of those that are equally far from the gate. */
    private static void promise26TieAtTheGate() {
        hasRound("ways of 10", places(10, 0, 0, 10), 10 + 20 + 10, 0, 1);
        hasRound("ways of 10, the other way about", places(0, 10, 10, 0), 10 + 20 + 10, 0, 1);
        hasRound("ways of 10 by both", places(3, 7, 7, 3, 5, 5), 10 + 4 + 4 + 10, 0, 2, 1);
        hasRound("one place", places(4, 4, 4, 4, 4, 4), 16, 0, 1, 2);
        hasRound("the gate", places(0, 0, 0, 0), 0, 0, 1);
    }

    /** "of several the lowest number", of those that are equally far from where it is. */
    private static void promise26TieOnTheWay() {
        // From (20, 20) it is 5 to both; then 11 to both, on either side.
        hasRound("by x and by y", places(25, 20, 20, 25, 20, 20), 40 + 5 + 10 + 45, 2, 0, 1);
        hasRound("ahead and back", places(25, 26, 15, 26, 20, 20), 40 + 11 + 10 + 41, 2, 0, 1);
        hasRound("back and ahead", places(15, 26, 25, 26, 20, 20), 40 + 11 + 10 + 51, 2, 0, 1);
        hasRound("the tie last", places(1, 0, 3, 0, 1, 2), 1 + 2 + 4 + 3, 0, 1, 2);
        hasRound("the tie last, the other way about", places(1, 0, 1, 2, 3, 0), 1 + 2 + 4 + 3, 0, 1, 2);
        hasRound("the lowest number is not nearest", places(50, 50, 0, 2, 2, 0), 2 + 4 + 98 + 100, 1, 2, 0);
    }

    /** "with the shortest way": a way that is shorter by 1 wins against a lower number. */
    private static void promise26OneNearer() {
        hasRound("ways of 11 and 10", places(11, 0, 10, 0), 10 + 1 + 11, 1, 0);
        hasRound("ways of 10 and 11", places(10, 0, 11, 0), 10 + 1 + 11, 0, 1);
        hasRound("ways of 11 and 10 by y", places(0, 11, 0, 10), 10 + 1 + 11, 1, 0);
        hasRound("by both", places(6, 5, 5, 5), 10 + 1 + 11, 1, 0);
        // From (10, 10) the way to (17, 14) is 11, to (14, 16) it is 10.
        hasRound("on the way", places(10, 10, 17, 14, 14, 16), 20 + 10 + 5 + 31, 0, 2, 1);
    }

    /** "of those that are due": a trap joins the round on the day on which it is due. */
    private static void promise26JustTheIntervalOld() {
        TrapSurvey x = places(5, 0, 1, 0);
        x.read(1, 160, 160, 1);
        hasRound("one that is due", x, 10, 0);
        x.pass(89);
        hasRound("one that is due on day 89", x, 10, 0);
        x.pass(1);
        hasRound("two that are due on day 90", x, 10, 1, 0);
    }

    private static void promise26FarthestPlace() {
        hasRound("the farthest place", places(50, 50), 200, 0);
        hasRound("the farthest corners", places(50, 50, 0, 50, 50, 0), 50 + 50 + 50 + 50, 1, 0, 2);
    }

    /** "and at last back to the gate", from a place on either side and from the gate itself. */
    private static void promise27ThereAndBack() {
        hasRound("(1, 0)", places(1, 0), 2, 0);
        hasRound("(0, 1)", places(0, 1), 2, 0);
        hasRound("(50, 0)", places(50, 0), 100, 0);
        hasRound("(0, 50)", places(0, 50), 100, 0);
        hasRound("(0, 0)", places(0, 0), 0, 0);
        CHECK.answers(() -> places(3, 4, 0, 1), "roundLength()", 14, TrapSurvey::roundLength);
    }

    /** "the present day, if it is due; otherwise the day of its reading plus the interval". */
    private static void promise28JustTheIntervalOld() {
        for (int interval : new int[] {1, 2, 90, 400}) {
            TrapSurvey x = soundTrap(interval);
            CHECK.due("dueOn(0) on the day of the reading", 7 + interval, x.dueOn(0));
            Build.onDay(x, 7 + interval - 1);
            CHECK.due("dueOn(0), " + interval + " - 1 days old", 7 + interval, x.dueOn(0));
            x.pass(1);
            CHECK.due("dueOn(0), " + interval + " days old", 7 + interval, x.dueOn(0));
            x.pass(1);
            CHECK.due("dueOn(0), " + interval + " + 1 days old", 7 + interval + 1, x.dueOn(0));
        }
    }

    private static void promise28OfARepairedTrap() {
        TrapSurvey x = Build.oneTrap(Build.BUCKET, 1);
        x.read(0, 160, 160, 30);
        x.pass(89);
        CHECK.due("dueOn(0), blown, on day 89", 89, x.dueOn(0));
        x.repair(0);
        CHECK.due("dueOn(0), repaired on day 89", 90, x.dueOn(0));
        x.pass(2);
        CHECK.due("dueOn(0), repaired, on day 91", 91, x.dueOn(0));
    }

    /** The day on which it is due may be one that cannot come. */
    private static void promise28OnTheLastDay() {
        TrapSurvey x = Build.onDay(Build.oneTrap(Build.BUCKET, 1), 10000);
        CHECK.due("dueOn(0), unknown", 10000, x.dueOn(0));
        x.read(0, 160, 160, 14);
        x.setWork(24, 20, 1);
        CHECK.due("dueOn(0), the interval is 1", 10001, x.dueOn(0));
        x.setWork(24, 20, 400);
        CHECK.due("dueOn(0), the interval is 400", 10400, x.dueOn(0));
        CHECK.due("isDue(0)", 0, x.isDue(0));
    }
}
