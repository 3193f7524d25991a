/**
 * Promises 15 to 24, 'Losses, repairs': the rounding of the divisions, the paybacks of one day and of
 * just as many days as are wanted, the ties of the repair order, the budget that is met or missed.
 */
public final class LossLimitTest {
    private static final Check CHECK = new Check("LossLimitTest");

    public static void main(String[] args) {
        promise15LossByState();
        promise15QuarterRoundedDown();
        promise15LeastAndLargest();
        promise18EachDay();
        promise19RoundedDown();
        promise19LeastAndLargest();
        promise20LeastAndLargest();
        promise21ExactDays();
        promise21OneShort();
        promise21OneDay();
        promise21TwoDays();
        promise22PaybackBeforeLoss();
        promise22LossBeforeNumber();
        promise22NumberAtLast();
        promise23ByState();
        promise24BudgetOfOne();
        promise24BudgetOfAll();
        promise24EndsAtTheFirst();
        CHECK.end();
    }

    /** On line 0 of a new plant, of a pressure; leaking by 15 or 20 cycles, blown by 60. */
    private static TrapSurvey plant(int pressure) {
        TrapSurvey survey = Build.oneLine();
        survey.setPressure(1, pressure);
        return survey;
    }

    private static int leaking(TrapSurvey survey, int kind, int size) {
        int trap = survey.addTrap(0, kind, size, 0, 0);
        survey.read(trap, 300, 285, 20);
        return trap;
    }

    private static int blown(TrapSurvey survey, int kind, int size) {
        int trap = survey.addTrap(0, kind, size, 0, 0);
        survey.read(trap, 300, 300, 60);
        return trap;
    }

    private static TrapSurvey oneLeaking(int kind, int size, int pressure) {
        TrapSurvey survey = plant(pressure);
        leaking(survey, kind, size);
        CHECK.due("trap(0, 5)", 2, survey.trap(0, 5));
        return survey;
    }

    private static TrapSurvey oneBlown(int kind, int size, int pressure) {
        TrapSurvey survey = plant(pressure);
        blown(survey, kind, size);
        CHECK.due("trap(0, 5)", 3, survey.trap(0, 5));
        return survey;
    }

    /** "The loss of a trap .. is 0, unless it is leaking or blown". */
    private static void promise15LossByState() {
        int[] want = {0, 247, 990, 0, 0};
        TrapSurvey x = Build.oneTrap(Build.BUCKET, 3);
        CHECK.due("loss(0), unknown", 0, x.loss(0));
        for (int i = 0; i < want.length; i++) {
            CHECK.due("read", 1 + i, Build.bringInto(x, 0, 1 + i));
            CHECK.due("loss(0) in the state " + (1 + i), want[i], x.loss(0));
            CHECK.due("lineLoss(0) in the state " + (1 + i), want[i], x.lineLoss(0));
            CHECK.due("headerLoss(0) in the state " + (1 + i), want[i], x.headerLoss(0));
        }
        Build.bringInto(x, 0, 3);
        x.repair(0);
        CHECK.due("loss(0), repaired", 0, x.loss(0));
    }

    /** "q / 4 (rounded down)": q is 20 (5), 30 (7.5), 40 (10), 50 (12.5), 810 (202.5), 17010 (4252.5). */
    private static void promise15QuarterRoundedDown() {
        CHECK.due("loss, q is 20", 5, oneLeaking(0, 1, 1).loss(0));
        CHECK.due("loss, q is 30", 7, oneLeaking(1, 1, 2).loss(0));
        CHECK.due("loss, q is 40", 10, oneLeaking(2, 1, 3).loss(0));
        CHECK.due("loss, q is 50", 12, oneLeaking(0, 1, 4).loss(0));
        CHECK.due("loss, q is 810", 202, oneLeaking(0, 3, 8).loss(0));
        CHECK.due("loss, q is 17010", 4252, oneLeaking(2, 9, 20).loss(0));
        // Each trap is rounded by itself: twice 7.5 is 14.
        TrapSurvey two = oneLeaking(0, 1, 2);
        leaking(two, 1, 1);
        CHECK.due("lineLoss(0) of two", 14, two.lineLoss(0));
        CHECK.due("headerLoss(1) of two", 14, two.headerLoss(1));
        two.pass(1);
        CHECK.due("lost(-1) of two", 14 * 24, two.lost(-1));
    }

    /** "q be size * size * (pressure of its header + 1) * 10", of the least and the largest. */
    private static void promise15LeastAndLargest() {
        CHECK.due("the least loss, leaking", 5, oneLeaking(1, 1, 1).loss(0));
        CHECK.due("the least loss, blown", 20, oneBlown(1, 1, 1).loss(0));
        CHECK.due("the largest loss, leaking", 4252, oneLeaking(0, 9, 20).loss(0));
        CHECK.due("the largest loss, blown", 17010, oneBlown(0, 9, 20).loss(0));
        TrapSurvey all = plant(20);
        for (int trap = 0; trap < 16; trap++) {
            blown(all, trap % 3, 9);
        }
        CHECK.due("lineLoss(0), the largest", 272160, all.lineLoss(0));
        CHECK.due("headerLoss(1), the largest", 272160, all.headerLoss(1));
        CHECK.due("headerLoss(0) beside it", 0, all.headerLoss(0));
        CHECK.due("headerLoss(2) beside it", 0, all.headerLoss(2));
        Build.onDay(all, 10000);
        CHECK.due("lost(15), the largest", 4082400000L, all.lost(15));
        CHECK.due("lost(-1), the largest", 65318400000L, all.lost(-1));
    }

    /** "whenever days pass, for each day its loss times the hours a day are added". */
    private static void promise18EachDay() {
        TrapSurvey x = oneLeaking(0, 1, 1);
        CHECK.due("lost(0) at first", 0, x.lost(0));
        x.setWork(1, 1, 1);
        x.pass(1);
        CHECK.due("lost(0) after a day of an hour", 5, x.lost(0));
        x.setWork(24, 1, 1);
        CHECK.due("lost(0) stays", 5, x.lost(0));
        x.pass(1);
        CHECK.due("lost(0) after a day of 24 hours", 125, x.lost(0));
        x.pass(100);
        CHECK.due("lost(0) after 100 days", 12125, x.lost(0));
        x.read(0, 160, 160, 1);
        x.pass(100);
        CHECK.due("lost(0), sound now", 12125, x.lost(0));
        CHECK.due("lost(-1), sound now", 12125, x.lost(-1));
    }

    private static void saves(long want, int loss, TrapSurvey survey, int hours, int price) {
        CHECK.due("loss(0)", loss, survey.loss(0));
        survey.setWork(hours, price, 90);
        CHECK.due("saves(0) of " + loss + " * " + hours + " * " + price, want, survey.saves(0));
    }

    /** "its loss times the hours a day times the price / 1000000 (rounded down, in long arithmetic)". */
    private static void promise19RoundedDown() {
        // 999975, 1000000 and 1000008; 1999965, 2000000 and 2000016: none lie closer.
        saves(0, 67, oneLeaking(0, 3, 2), 15, 995);
        saves(1, 2500, oneBlown(0, 5, 9), 20, 20);
        saves(1, 50, oneBlown(0, 1, 4), 20, 1000);
        saves(1, 612, oneLeaking(0, 7, 4), 2, 817);
        saves(1, 187, oneLeaking(0, 5, 2), 15, 713);
        saves(2, 100, oneBlown(0, 1, 9), 20, 1000);
        saves(2, 612, oneLeaking(0, 7, 4), 4, 817);
    }

    private static void promise19LeastAndLargest() {
        saves(0, 5, oneLeaking(0, 1, 1), 1, 1);
        saves(0, 5, oneLeaking(0, 1, 1), 24, 1000);
        saves(0, 17010, oneBlown(0, 9, 20), 1, 1);
        saves(408, 17010, oneBlown(0, 9, 20), 24, 1000);
    }

    /** "50 + 20 * size, for the kind 2 it is 30 + 10 * size": in every state alike. */
    private static void promise20LeastAndLargest() {
        int[][] want = {{70, 230}, {70, 230}, {40, 120}};
        for (int kind = 0; kind < 3; kind++) {
            for (int which = 0; which < 2; which++) {
                TrapSurvey x = Build.oneTrap(kind, which == 0 ? 1 : 9);
                CHECK.due("repairCost(0), unknown, of the kind " + kind, want[kind][which], x.repairCost(0));
                for (int state = 1; state <= 5; state++) {
                    CHECK.due("read", state, Build.bringInto(x, 0, state));
                    CHECK.due("repairCost(0) of the kind " + kind, want[kind][which], x.repairCost(0));
                }
            }
        }
    }

    private static void paysBack(long want, int loss, TrapSurvey survey, int hours, int price) {
        CHECK.due("loss(0)", loss, survey.loss(0));
        survey.setWork(hours, price, 90);
        CHECK.due("payback(0) of " + loss + " * " + hours + " * " + price + " for " + survey.repairCost(0), want,
                survey.payback(0));
    }

    /** "the smallest number of whole days .. in which (..) is at least 1000000 * (cost of its repair)": just that. */
    private static void promise21ExactDays() {
        paysBack(3, 2500, oneBlown(0, 5, 9), 20, 1000);
        paysBack(4, 2500, oneBlown(0, 5, 9), 20, 999);
        paysBack(3, 2500, oneBlown(0, 5, 9), 21, 1000);
        paysBack(10, 200, oneBlown(2, 1, 19), 20, 1000);
        paysBack(11, 200, oneBlown(2, 1, 19), 20, 999);
        paysBack(10, 600, oneBlown(0, 2, 14), 15, 1000);
        paysBack(300, 20, oneLeaking(0, 2, 1), 15, 1000);
        paysBack(301, 20, oneLeaking(0, 2, 1), 15, 999);
        paysBack(14000000, 5, oneLeaking(0, 1, 1), 1, 1);
    }

    /** In a day less the steam would be worth 69999999 millionths of a cost that is 70. */
    private static void promise21OneShort() {
        paysBack(4117648, 17, oneLeaking(0, 1, 6), 1, 1);
        paysBack(1372550, 17, oneLeaking(0, 1, 6), 3, 1);
        paysBack(1372550, 17, oneLeaking(0, 1, 6), 1, 3);
    }

    /** "at least 1": a day is enough just so, or by far. */
    private static void promise21OneDay() {
        paysBack(1, 4000, oneBlown(2, 5, 15), 20, 1000);
        paysBack(2, 4000, oneBlown(2, 5, 15), 20, 999);
        paysBack(2, 4000, oneBlown(2, 5, 15), 19, 1000);
        paysBack(1, 5000, oneBlown(2, 5, 19), 16, 1000);
        paysBack(2, 4750, oneBlown(2, 5, 18), 16, 1000);
        paysBack(1, 17010, oneBlown(2, 9, 20), 24, 1000);
    }

    private static void promise21TwoDays() {
        paysBack(2, 2000, oneBlown(2, 5, 7), 20, 1000);
        paysBack(3, 2000, oneBlown(2, 5, 7), 20, 999);
        paysBack(2, 3750, oneBlown(0, 5, 14), 20, 1000);
        paysBack(3, 3750, oneBlown(0, 5, 14), 20, 999);
    }

    private static void hasOrder(String plant, TrapSurvey survey, int... want) {
        for (int rank = 0; rank < want.length; rank++) {
            CHECK.due("order(" + rank + ") of " + plant, want[rank], survey.order(rank));
        }
        CHECK.due("order(" + want.length + ") of " + plant, Check.NONE, survey.order(want.length));
    }

    /** "by ascending paybacks": a day less comes first, though its loss is less and its number higher. */
    private static void promise22PaybackBeforeLoss() {
        TrapSurvey x = plant(10);
        blown(x, Build.BUCKET, 5);
        leaking(x, Build.DISC, 9);
        CHECK.due("loss(0)", 2750, x.loss(0));
        CHECK.due("loss(1)", 2227, x.loss(1));
        CHECK.due("payback(0)", 114, x.payback(0));
        CHECK.due("payback(1)", 113, x.payback(1));
        hasOrder("paybacks 114 and 113", x, 1, 0);
    }

    /** "those with equal paybacks by descending losses": 562 comes before 560, though its number is higher. */
    private static void promise22LossBeforeNumber() {
        TrapSurvey x = plant(13);
        x.addLine(2);
        x.setPressure(2, 8);
        x.setWork(24, 1000, 90);
        leaking(x, Build.DISC, 4);
        x.addTrap(1, Build.DISC, 5, 0, 0);
        x.read(1, 300, 285, 20);
        leaking(x, Build.DISC, 4);
        x.addTrap(1, Build.DISC, 5, 0, 0);
        x.read(3, 300, 285, 20);
        for (int trap = 0; trap < 4; trap++) {
            CHECK.due("payback(" + trap + ")", 6, x.payback(trap));
            CHECK.due("loss(" + trap + ")", trap % 2 == 0 ? 560 : 562, x.loss(trap));
        }
        hasOrder("equal paybacks", x, 1, 3, 0, 2);
    }

    /** "then by ascending numbers": also where all is equal, and where a cheaper kind loses the same. */
    private static void promise22NumberAtLast() {
        TrapSurvey same = plant(10);
        int[] ascending = new int[16];
        for (int trap = 0; trap < 16; trap++) {
            blown(same, Build.THERMOSTATIC, 2);
            ascending[trap] = trap;
        }
        hasOrder("16 alike", same, ascending);
        same.read(7, 160, 0, 0);
        same.repair(0);
        hasOrder("14 alike", same, 1, 2, 3, 4, 5, 6, 8, 9, 10, 11, 12, 13, 14, 15);
        TrapSurvey kinds = plant(10);
        blown(kinds, Build.BUCKET, 1);
        blown(kinds, Build.THERMOSTATIC, 1);
        blown(kinds, Build.DISC, 1);
        CHECK.due("loss(0) is loss(2)", kinds.loss(0), kinds.loss(2));
        hasOrder("equal losses", kinds, 2, 0, 1);
    }

    /** "BAD_STATE if it is sound or unknown": leaking, blown, plugged and cold ones are repaired. */
    private static void promise23ByState() {
        CHECK.answers(() -> Build.oneTrap(0, 1), "repair(0), unknown", Check.BAD_STATE, s -> s.repair(0));
        CHECK.answers(() -> inState(1), "repair(0), sound", Check.BAD_STATE, s -> s.repair(0));
        CHECK.records(() -> inState(2), "repair(0), leaking", 70, s -> s.repair(0));
        CHECK.records(() -> inState(3), "repair(0), blown", 70, s -> s.repair(0));
        CHECK.records(() -> inState(4), "repair(0), plugged", 70, s -> s.repair(0));
        CHECK.records(() -> inState(5), "repair(0), cold", 70, s -> s.repair(0));
        for (int state = 2; state <= 5; state++) {
            TrapSurvey x = inState(state);
            x.repair(0);
            CHECK.due("trap(0, 5), repaired in the state " + state, 1, x.trap(0, 5));
            CHECK.due("repair(0) again", Check.BAD_STATE, x.repair(0));
            CHECK.due("count(6), repaired once", 70, x.count(6));
            CHECK.due("count(7), repaired once", 1, x.count(7));
        }
    }

    private static TrapSurvey inState(int state) {
        TrapSurvey survey = Build.oneTrap(Build.BUCKET, 1);
        CHECK.due("read", state, Build.bringInto(survey, 0, state));
        return survey;
    }

    private static void repairsAll(TrapSurvey survey, int budget, int want, int spent) {
        CHECK.due("repairAll(" + budget + ")", want, survey.repairAll(budget));
        CHECK.due("count(6) after repairAll(" + budget + ")", spent, survey.count(6));
        CHECK.due("count(7) after repairAll(" + budget + ")", want, survey.count(7));
        CHECK.due("inState(1) after repairAll(" + budget + ")", want, survey.inState(1));
    }

    /** "as long as the sum of their costs is at most a budget": met exactly, or missed by 1. */
    private static void promise24BudgetOfOne() {
        repairsAll(oneBlown(2, 1, 10), 39, 0, 0);
        repairsAll(oneBlown(2, 1, 10), 40, 1, 40);
        repairsAll(oneBlown(2, 1, 10), 41, 1, 40);
        repairsAll(oneBlown(0, 9, 10), 229, 0, 0);
        repairsAll(oneBlown(0, 9, 10), 230, 1, 230);
        repairsAll(oneBlown(0, 9, 10), 231, 1, 230);
    }

    private static TrapSurvey sixteenBlown() {
        TrapSurvey survey = plant(10);
        for (int trap = 0; trap < 16; trap++) {
            blown(survey, Build.BUCKET, 9);
        }
        return survey;
    }

    /** The dearest plant costs 16 * 230, which is 3680. */
    private static void promise24BudgetOfAll() {
        repairsAll(sixteenBlown(), 3449, 14, 3220);
        repairsAll(sixteenBlown(), 3450, 15, 3450);
        repairsAll(sixteenBlown(), 3679, 15, 3450);
        repairsAll(sixteenBlown(), 3680, 16, 3680);
        repairsAll(sixteenBlown(), 3681, 16, 3680);
        repairsAll(sixteenBlown(), 10000, 16, 3680);
        repairsAll(sixteenBlown(), 0, 0, 0);
    }

    /** "it ends at the first one that would be too much": none behind it is repaired, though it is cheaper. */
    private static void promise24EndsAtTheFirst() {
        for (int budget : new int[] {120, 159, 160, 349, 350, 389, 390}) {
            TrapSurvey x = plant(20);
            leaking(x, Build.DISC, 1);
            blown(x, Build.DISC, 9);
            blown(x, Build.BUCKET, 9);
            hasOrder("costs 120, 230 and 40", x, 1, 2, 0);
            int want = budget < 350 ? 1 : budget < 390 ? 2 : 3;
            repairsAll(x, budget, want, want == 1 ? 120 : want == 2 ? 350 : 390);
            CHECK.due("trap(0, 5) after repairAll(" + budget + ")", want == 3 ? 1 : 2, x.trap(0, 5));
        }
    }
}
