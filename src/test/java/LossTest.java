/** Promises 15 to 24: losses and repairs. */
public final class LossTest {
    private static final Check CHECK = new Check("LossTest");

    public static void main(String[] args) {
        sixteenTraps();
        promise15Loss();
        promise16LineLoss();
        promise17HeaderLoss();
        promise18Lost();
        promise19Saves();
        promise20RepairCost();
        promise21Payback();
        promise22Order();
        promise22EqualPaybacks();
        promise23Repair();
        promise24RepairAll();
        promise24RepairAllBudgets();
        CHECK.end();
    }

    private static TrapSurvey leaking(int size, int pressure) {
        TrapSurvey x = Build.oneTrap(Build.BUCKET, size);
        x.setPressure(0, pressure);
        x.read(0, 300, 300, 15);
        return x;
    }

    private static TrapSurvey blown(int kind, int size, int pressure) {
        TrapSurvey x = Build.oneTrap(kind, size);
        x.setPressure(0, pressure);
        x.read(0, 300, 300, 60);
        return x;
    }

    /** Sums over as many traps as there can be: the sizes 1 to 9 and 1 to 7, blown, pressure 10. */
    private static void sixteenTraps() {
        TrapSurvey x = Build.fullOfTraps();
        for (int trap = 0; trap < 16; trap++) {
            x.read(trap, 300, 300, 60);
        }
        int sum = 110 * (285 + 140);
        CHECK.due("lineLoss(0) of 16", sum, x.lineLoss(0));
        CHECK.due("headerLoss(1) of 16", sum, x.headerLoss(1));
        CHECK.due("pass(2) with 16", 2, x.pass(2));
        CHECK.due("lost(15) of 16", 110 * 49 * 24 * 2, x.lost(15));
        CHECK.due("lost(-1) of 16", sum * 24 * 2, x.lost(-1));
        CHECK.due("loss(16) of 16", Check.BAD_INDEX, x.loss(16));
        CHECK.due("inState(3) of 16", 16, x.inState(3));
    }

    private static void promise15Loss() {
        CHECK.due("loss, blown, size 9, pressure 20", 17010, blown(0, 9, 20).loss(0));
        CHECK.due("loss, blown, size 1, pressure 1", 20, blown(1, 1, 1).loss(0));
        CHECK.due("loss, blown, size 4, pressure 6", 1120, blown(2, 4, 6).loss(0));
        CHECK.due("loss, leaking, size 9, pressure 20", 4252, leaking(9, 20).loss(0));
        CHECK.due("loss, leaking, size 1, pressure 10", 27, leaking(1, 10).loss(0));
        CHECK.due("loss, leaking, size 3, pressure 2", 67, leaking(3, 2).loss(0));
        CHECK.answers(Build::plant, "loss(0)", 990, s -> s.loss(0));
        CHECK.answers(Build::plant, "loss(1)", 210, s -> s.loss(1));
        CHECK.answers(Build::plant, "loss(3), unknown", 0, s -> s.loss(3));
        CHECK.answers(Build::plant, "loss(4), sound", 0, s -> s.loss(4));
        CHECK.answers(Build::plant, "loss(-1)", Check.BAD_INDEX, s -> s.loss(-1));
        CHECK.answers(Build::plant, "loss(5)", Check.BAD_INDEX, s -> s.loss(5));
        CHECK.answers(TrapSurvey::new, "loss(0) without traps", Check.BAD_INDEX, s -> s.loss(0));
        TrapSurvey x = Build.plant();
        x.read(0, 0, 0, 0);
        CHECK.due("loss(0), cold", 0, x.loss(0));
        x.read(0, 160, 0, 0);
        CHECK.due("loss(0), plugged", 0, x.loss(0));
    }

    private static void promise16LineLoss() {
        CHECK.answers(Build::plant, "lineLoss(0)", 990, s -> s.lineLoss(0));
        CHECK.answers(Build::plant, "lineLoss(1)", 210, s -> s.lineLoss(1));
        CHECK.answers(Build::plant, "lineLoss(2)", 8910, s -> s.lineLoss(2));
        CHECK.answers(Build::oneLine, "lineLoss(0) without traps", 0, s -> s.lineLoss(0));
        CHECK.answers(Build::plant, "lineLoss(-1)", Check.BAD_INDEX, s -> s.lineLoss(-1));
        CHECK.answers(Build::plant, "lineLoss(3)", Check.BAD_INDEX, s -> s.lineLoss(3));
        CHECK.answers(TrapSurvey::new, "lineLoss(0) without lines", Check.BAD_INDEX, s -> s.lineLoss(0));
        TrapSurvey x = Build.plant();
        x.read(4, 160, 100, 25);
        CHECK.due("lineLoss(0) of two traps", 990 + 440, x.lineLoss(0));
    }

    private static void promise17HeaderLoss() {
        CHECK.answers(Build::plant, "headerLoss(0)", 990 + 8910, s -> s.headerLoss(0));
        CHECK.answers(Build::plant, "headerLoss(1)", 0, s -> s.headerLoss(1));
        CHECK.answers(Build::plant, "headerLoss(2)", 210, s -> s.headerLoss(2));
        CHECK.answers(Build::plant, "headerLoss(-1)", Check.BAD_INDEX, s -> s.headerLoss(-1));
        CHECK.answers(Build::plant, "headerLoss(3)", Check.BAD_INDEX, s -> s.headerLoss(3));
        CHECK.answers(TrapSurvey::new, "headerLoss(0) without lines", 0, s -> s.headerLoss(0));
        TrapSurvey x = Build.plant();
        x.moveLine(2, 1);
        CHECK.due("headerLoss(0) after moveLine(2, 1)", 990, x.headerLoss(0));
        CHECK.due("headerLoss(1) after moveLine(2, 1)", 6480, x.headerLoss(1));
    }

    private static void promise18Lost() {
        TrapSurvey x = Build.plant();
        x.pass(3);
        CHECK.due("lost(0)", 990 * 24 * 3, x.lost(0));
        CHECK.due("lost(-1)", (990 + 210 + 8910) * 24 * 3, x.lost(-1));
        x.repair(0);
        x.pass(10);
        CHECK.due("lost(0) after its repair", 990 * 24 * 3, x.lost(0));
        CHECK.due("lost(2)", 8910 * 24 * 13, x.lost(2));
        CHECK.answers(Build::plant, "lost(0) on the first day", 0, s -> s.lost(0));
        CHECK.answers(Build::plant, "lost(-1) on the first day", 0, s -> s.lost(-1));
        CHECK.answers(Build::plant, "lost(-2)", Check.BAD_INDEX, s -> s.lost(-2));
        CHECK.answers(Build::plant, "lost(5)", Check.BAD_INDEX, s -> s.lost(5));
        CHECK.answers(TrapSurvey::new, "lost(0) without traps", Check.BAD_INDEX, s -> s.lost(0));
        CHECK.answers(TrapSurvey::new, "lost(-1) without traps", 0, s -> s.lost(-1));
        TrapSurvey y = Build.onDay(blown(2, 9, 20), 10000);
        CHECK.due("lost(0) after 10000 days", 4082400000L, y.lost(0));
        CHECK.due("lost(-1) after 10000 days", 4082400000L, y.lost(-1));
    }

    private static void promise19Saves() {
        TrapSurvey x = blown(2, 9, 20);
        CHECK.due("saves(0)", 8, x.saves(0));
        x.setWork(24, 1000, 90);
        CHECK.due("saves(0), price 1000", 408, x.saves(0));
        x.setWork(1, 58, 90);
        CHECK.due("saves(0), just less than 1", 0, x.saves(0));
        x.setWork(1, 59, 90);
        CHECK.due("saves(0), just more than 1", 1, x.saves(0));
        CHECK.answers(Build::plant, "saves(0)", 0, s -> s.saves(0));
        CHECK.answers(Build::plant, "saves(2)", 4, s -> s.saves(2));
        CHECK.answers(Build::plant, "saves(3)", 0, s -> s.saves(3));
        CHECK.answers(Build::plant, "saves(-1)", Check.BAD_INDEX, s -> s.saves(-1));
        CHECK.answers(Build::plant, "saves(5)", Check.BAD_INDEX, s -> s.saves(5));
        TrapSurvey exact = blown(0, 5, 9);
        exact.setWork(20, 20, 90);
        CHECK.due("saves(0), exactly 1", 1, exact.saves(0));
    }

    private static void promise20RepairCost() {
        for (int size = 1; size <= 9; size++) {
            CHECK.due("cost, kind 0, size " + size, 50 + 20 * size, Build.oneTrap(0, size).repairCost(0));
            CHECK.due("cost, kind 1, size " + size, 50 + 20 * size, Build.oneTrap(1, size).repairCost(0));
            CHECK.due("cost, kind 2, size " + size, 30 + 10 * size, Build.oneTrap(2, size).repairCost(0));
        }
        CHECK.answers(Build::plant, "repairCost(2)", 120, s -> s.repairCost(2));
        CHECK.answers(Build::plant, "repairCost(-1)", Check.BAD_INDEX, s -> s.repairCost(-1));
        CHECK.answers(Build::plant, "repairCost(5)", Check.BAD_INDEX, s -> s.repairCost(5));
    }

    private static void promise21Payback() {
        TrapSurvey dear = blown(2, 9, 20);
        CHECK.due("payback(0)", 15, dear.payback(0));
        dear.setWork(24, 1000, 90);
        CHECK.due("payback(0) in a day", 1, dear.payback(0));
        TrapSurvey cheap = leaking(1, 1);
        cheap.setWork(1, 1, 90);
        CHECK.due("payback(0), the longest", 14000000, cheap.payback(0));
        // A day less would be one millionth short: 17 * 4117647 is 1000000 * 70 - 1.
        TrapSurvey nearly = leaking(1, 6);
        nearly.setWork(1, 1, 90);
        CHECK.due("payback(0), nearly a day less", 4117648, nearly.payback(0));
        // The loss is 1250, the cost 150: 1250 * 20 * 20 * 300 days is just 1000000 * 150.
        TrapSurvey exact = blown(0, 5, 4);
        exact.setWork(20, 20, 90);
        CHECK.due("payback(0), exact", 300, exact.payback(0));
        exact.setWork(20, 21, 90);
        CHECK.due("payback(0), a higher price", 286, exact.payback(0));
        exact.setWork(20, 19, 90);
        CHECK.due("payback(0), a lower price", 316, exact.payback(0));
        CHECK.answers(Build::plant, "payback(2)", 29, s -> s.payback(2));
        CHECK.answers(Build::plant, "payback(3), unknown", Check.NONE, s -> s.payback(3));
        CHECK.answers(Build::plant, "payback(4), sound", Check.NONE, s -> s.payback(4));
        CHECK.answers(Build::plant, "payback(-1)", Check.BAD_INDEX, s -> s.payback(-1));
        CHECK.answers(Build::plant, "payback(5)", Check.BAD_INDEX, s -> s.payback(5));
    }

    private static void promise22Order() {
        CHECK.answers(Build::plant, "order(0)", 2, s -> s.order(0));
        CHECK.answers(Build::plant, "order(1)", 0, s -> s.order(1));
        CHECK.answers(Build::plant, "order(2)", 1, s -> s.order(2));
        CHECK.answers(Build::plant, "order(3)", Check.NONE, s -> s.order(3));
        CHECK.answers(Build::plant, "order(1000000000)", Check.NONE, s -> s.order(1000000000));
        CHECK.answers(Build::plant, "order(-1)", Check.BAD_VALUE, s -> s.order(-1));
        CHECK.answers(TrapSurvey::new, "order(0) without traps", Check.NONE, s -> s.order(0));
        TrapSurvey x = Build.fullOfTraps();
        for (int trap = 0; trap < 16; trap++) {
            x.read(trap, 300, 300, 60);
        }
        // 5 and 14, 6 and 15, and so on, are alike: there the lower number is first.
        int[] want = {8, 5, 14, 7, 6, 15, 4, 13, 2, 11, 3, 12, 1, 10, 0, 9};
        for (int rank = 0; rank + 1 < want.length; rank++) {
            CHECK.due("payback of rank " + rank + " is at most the next one", 1,
                    x.payback(x.order(rank)) <= x.payback(x.order(rank + 1)) ? 1 : 0);
        }
        for (int rank = 0; rank < want.length; rank++) {
            CHECK.due("order(" + rank + ") of 16", want[rank], x.order(rank));
        }
        CHECK.due("order(16)", Check.NONE, x.order(16));
    }

    /** All pay back in a day; those of the line 0 lose more, since their header has more pressure. */
    private static void promise22EqualPaybacks() {
        TrapSurvey x = new TrapSurvey();
        x.addLine(0);
        x.addLine(1);
        x.setPressure(0, 20);
        x.setPressure(1, 19);
        x.addTrap(1, Build.DISC, 9, 0, 0);
        x.addTrap(0, Build.DISC, 9, 0, 0);
        x.addTrap(1, Build.DISC, 9, 0, 0);
        x.addTrap(0, Build.DISC, 9, 0, 0);
        for (int trap = 0; trap < 4; trap++) {
            x.read(trap, 300, 300, 60);
        }
        x.setWork(24, 1000, 90);
        int[] want = {1, 3, 0, 2};
        for (int rank = 0; rank < want.length; rank++) {
            CHECK.due("payback(" + rank + ")", 1, x.payback(rank));
            CHECK.due("order(" + rank + ") of equal paybacks", want[rank], x.order(rank));
        }
    }

    private static void promise23Repair() {
        TrapSurvey x = Build.plant();
        x.pass(5);
        CHECK.due("repair(0)", 110, x.repair(0));
        CHECK.due("trap(0, 5)", 1, x.trap(0, 5));
        CHECK.due("trap(0, 6)", 0, x.trap(0, 6));
        CHECK.due("lost(0)", 990 * 24 * 5, x.lost(0));
        CHECK.due("loss(0)", 0, x.loss(0));
        CHECK.due("count(6)", 110, x.count(6));
        CHECK.due("count(7)", 1, x.count(7));
        CHECK.due("repair(2)", 120, x.repair(2));
        CHECK.due("count(6)", 230, x.count(6));
        CHECK.due("count(7)", 2, x.count(7));
        x.read(3, 0, 0, 0);
        CHECK.due("repair(3), cold", 70, x.repair(3));
        x.read(4, 160, 0, 0);
        CHECK.due("repair(4), plugged", 70, x.repair(4));
        CHECK.due("trap(4, 5)", 1, x.trap(4, 5));
        CHECK.answers(Build::plant, "repair(3), unknown", Check.BAD_STATE, s -> s.repair(3));
        CHECK.answers(Build::plant, "repair(4), sound", Check.BAD_STATE, s -> s.repair(4));
        CHECK.answers(Build::plant, "repair(-1)", Check.BAD_INDEX, s -> s.repair(-1));
        CHECK.answers(Build::plant, "repair(5)", Check.BAD_INDEX, s -> s.repair(5));
        CHECK.records(Build::plant, "repair(1), leaking", 90, s -> s.repair(1));
        CHECK.records(Build::plant, "repair(2), blown", 120, s -> s.repair(2));
    }

    private static void promise24RepairAll() {
        TrapSurvey x = Build.plant();
        x.pass(4);
        CHECK.due("repairAll(10000)", 3, x.repairAll(10000));
        CHECK.same("the plant", "counts 3 5 24 20 90 4 320 3 / header 10 / header 7 / header 20"
                + " / line 0 / line 2 / line 0 / trap 0 0 3 5 0 1 0 0 lost 95040 / trap 1 1 2 5 10 1 0 2 lost 20160"
                + " / trap 2 2 9 40 41 1 0 0 lost 855360 / trap 1 0 1 7 8 0 -1 2 lost 0"
                + " / trap 0 2 4 50 1 1 0 0 lost 0", Picture.of(x));
        CHECK.due("repairAll(10000) again", 0, x.repairAll(10000));
        CHECK.due("undo()", 4, x.undo());
        CHECK.due("undo()", 3, x.undo());
        CHECK.due("count(7) after undo()", 0, x.count(7));
        CHECK.answers(Build::plant, "repairAll(-1)", Check.BAD_VALUE, s -> s.repairAll(-1));
        CHECK.answers(Build::plant, "repairAll(10001)", Check.BAD_VALUE, s -> s.repairAll(10001));
        CHECK.records(Build::plant, "repairAll(0)", 0, s -> s.repairAll(0));
        CHECK.records(Build::plant, "repairAll(10000)", 3, s -> s.repairAll(10000));
        CHECK.records(TrapSurvey::new, "repairAll(5) without traps", 0, s -> s.repairAll(5));
        TrapSurvey full = Build.fullOfTraps();
        for (int trap = 0; trap < 16; trap++) {
            full.read(trap, 300, 300, 60);
        }
        CHECK.due("repairAll(10000) of 16", 16, full.repairAll(10000));
        CHECK.due("inState(1)", 16, full.inState(1));
        CHECK.due("count(7)", 16, full.count(7));
    }

    /** The order is 2, 0, 1, and the costs in it are 120, 110, 90. */
    private static void promise24RepairAllBudgets() {
        int[] budgets = {0, 90, 119, 120, 210, 229, 230, 319, 320, 321};
        int[] want = {0, 0, 0, 1, 1, 1, 2, 2, 3, 3};
        int[] spent = {0, 0, 0, 120, 120, 120, 230, 230, 320, 320};
        for (int i = 0; i < budgets.length; i++) {
            TrapSurvey x = Build.plant();
            CHECK.due("repairAll(" + budgets[i] + ")", want[i], x.repairAll(budgets[i]));
            CHECK.due("count(6) after it", spent[i], x.count(6));
            CHECK.due("count(7) after it", want[i], x.count(7));
            CHECK.due("inState(1) after it", 1 + want[i], x.inState(1));
            CHECK.due("trap(2, 5) after it", want[i] > 0 ? 1 : 3, x.trap(2, 5));
            CHECK.due("trap(0, 5) after it", want[i] > 1 ? 1 : 3, x.trap(0, 5));
            CHECK.due("trap(1, 5) after it", want[i] > 2 ? 1 : 2, x.trap(1, 5));
        }
        TrapSurvey y = Build.plant();
        y.read(3, 0, 0, 0);
        CHECK.due("repairAll(10000) leaves a cold trap", 3, y.repairAll(10000));
        CHECK.due("trap(3, 5)", 5, y.trap(3, 5));
    }
}
