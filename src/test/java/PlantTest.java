/** Promises 1 to 10: the plant. */
public final class PlantTest {
    private static final Check CHECK = new Check("PlantTest");

    public static void main(String[] args) {
        constants();
        promise1NewObject();
        promise1ObjectsAreApart();
        promise2SetPressure();
        promise2StatesStay();
        promise3AddLine();
        promise4AddTrap();
        promise4RangesOfAddTrap();
        promise4TrapsAfterUndoAreNew();
        promise5MoveLine();
        promise6SetWork();
        promise7Count();
        promise8Trap();
        promise9HeaderOf();
        promise10Pressure();
        CHECK.end();
    }

    private static void constants() {
        CHECK.due("NONE", -1, TrapSurvey.NONE);
        CHECK.due("BAD_INDEX", -2, TrapSurvey.BAD_INDEX);
        CHECK.due("BAD_VALUE", -3, TrapSurvey.BAD_VALUE);
        CHECK.due("BAD_STATE", -4, TrapSurvey.BAD_STATE);
        CHECK.due("FULL", -5, TrapSurvey.FULL);
    }

    private static void promise1NewObject() {
        TrapSurvey x = new TrapSurvey();
        CHECK.same("a new object", "counts 0 0 24 20 90 0 0 0 / header 10 / header 10 / header 10", Picture.of(x));
        CHECK.due("undo()", Check.BAD_STATE, x.undo());
        CHECK.due("clearText()", 0, x.clearText());
        CHECK.due("textFault()", 0, x.textFault());
        CHECK.due("lost(-1)", 0, x.lost(-1));
        CHECK.due("order(0)", Check.NONE, x.order(0));
        CHECK.due("round(0)", Check.NONE, x.round(0));
        CHECK.due("roundLength()", 0, x.roundLength());
        CHECK.due("inState(0)", 0, x.inState(0));
        CHECK.due("repairAll(10000)", 0, x.repairAll(10000));
    }

    private static void promise1ObjectsAreApart() {
        TrapSurvey x = Build.typed(Build.plant(), "0:1/1");
        TrapSurvey y = new TrapSurvey();
        CHECK.same("another object", "counts 0 0 24 20 90 0 0 0 / header 10 / header 10 / header 10", Picture.of(y));
        y.setPressure(0, 3);
        CHECK.due("pressure(0) of the first", 10, x.pressure(0));
        CHECK.due("clearText() of the first", 5, x.clearText());
    }

    private static void promise2SetPressure() {
        TrapSurvey x = new TrapSurvey();
        CHECK.due("setPressure(0, 1)", 10, x.setPressure(0, 1));
        CHECK.due("setPressure(1, 20)", 10, x.setPressure(1, 20));
        CHECK.due("setPressure(2, 12)", 10, x.setPressure(2, 12));
        CHECK.due("setPressure(0, 4)", 1, x.setPressure(0, 4));
        CHECK.due("setPressure(1, 1)", 20, x.setPressure(1, 1));
        CHECK.due("setPressure(1, 1) again", 1, x.setPressure(1, 1));
        CHECK.same("the plant", "counts 0 0 24 20 90 0 0 0 / header 4 / header 1 / header 12", Picture.of(x));
        CHECK.answers(Build::plant, "setPressure(-1, 5)", Check.BAD_INDEX, s -> s.setPressure(-1, 5));
        CHECK.answers(Build::plant, "setPressure(3, 5)", Check.BAD_INDEX, s -> s.setPressure(3, 5));
        CHECK.answers(Build::plant, "setPressure(0, 0)", Check.BAD_VALUE, s -> s.setPressure(0, 0));
        CHECK.answers(Build::plant, "setPressure(2, 21)", Check.BAD_VALUE, s -> s.setPressure(2, 21));
        CHECK.answers(Build::plant, "setPressure(2, -1)", Check.BAD_VALUE, s -> s.setPressure(2, -1));
        CHECK.answers(Build::plant, "setPressure(3, 21)", Check.BAD_INDEX, s -> s.setPressure(3, 21));
        CHECK.answers(Build::plant, "setPressure(-1, 0)", Check.BAD_INDEX, s -> s.setPressure(-1, 0));
        CHECK.records(Build::plant, "setPressure(1, 9)", 7, s -> s.setPressure(1, 9));
        CHECK.records(TrapSurvey::new, "setPressure(0, 10)", 10, s -> s.setPressure(0, 10));
    }

    private static void promise2StatesStay() {
        TrapSurvey x = Build.oneTrap(Build.BUCKET, 1);
        x.read(0, 80, 80, 30);
        x.setPressure(0, 20);
        CHECK.due("trap(0, 5) under more pressure", 3, x.trap(0, 5));
        CHECK.due("loss(0) under more pressure", 210, x.loss(0));
        CHECK.due("judge(0, 80, 80, 30) under more pressure", 5, x.judge(0, 80, 80, 30));
    }

    private static void promise3AddLine() {
        TrapSurvey x = new TrapSurvey();
        for (int line = 0; line < 8; line++) {
            CHECK.due("addLine no. " + line, line, x.addLine((line + 1) % 3));
            CHECK.due("count(0)", line + 1, x.count(0));
        }
        for (int line = 0; line < 8; line++) {
            CHECK.due("headerOf(" + line + ")", (line + 1) % 3, x.headerOf(line));
        }
        CHECK.answers(Build::plant, "addLine(-1)", Check.BAD_INDEX, s -> s.addLine(-1));
        CHECK.answers(Build::plant, "addLine(3)", Check.BAD_INDEX, s -> s.addLine(3));
        CHECK.answers(Build::fullOfLines, "addLine(0) when full", Check.FULL, s -> s.addLine(0));
        CHECK.answers(Build::fullOfLines, "addLine(2) when full", Check.FULL, s -> s.addLine(2));
        CHECK.answers(Build::fullOfLines, "addLine(3) when full", Check.BAD_INDEX, s -> s.addLine(3));
        CHECK.answers(Build::fullOfLines, "addLine(-1) when full", Check.BAD_INDEX, s -> s.addLine(-1));
        CHECK.records(TrapSurvey::new, "addLine(2)", 0, s -> s.addLine(2));
        CHECK.records(Build::plant, "addLine(1)", 3, s -> s.addLine(1));
    }

    private static void promise4AddTrap() {
        TrapSurvey x = Build.oneLine();
        x.addLine(2);
        CHECK.due("addTrap(1, 2, 9, 50, 0)", 0, x.addTrap(1, 2, 9, 50, 0));
        CHECK.due("addTrap(0, 0, 1, 0, 50)", 1, x.addTrap(0, 0, 1, 0, 50));
        CHECK.same("the plant", "counts 2 2 24 20 90 0 0 0 / header 10 / header 10 / header 10 / line 1 / line 2"
                + " / trap 1 2 9 50 0 0 -1 2 lost 0 / trap 0 0 1 0 50 0 -1 1 lost 0", Picture.of(x));
        for (int trap = 2; trap < 16; trap++) {
            CHECK.due("addTrap no. " + trap, trap, x.addTrap(trap % 2, 1, 5, trap, 2 * trap));
        }
        CHECK.due("count(1)", 16, x.count(1));
        CHECK.due("trap(15, 0)", 1, x.trap(15, 0));
        CHECK.due("trap(15, 3)", 15, x.trap(15, 3));
        CHECK.due("trap(15, 4)", 30, x.trap(15, 4));
        CHECK.due("addTrap when full", Check.FULL, x.addTrap(0, 0, 1, 0, 0));
        CHECK.records(Build::plant, "addTrap(2, 1, 5, 50, 50)", 5, s -> s.addTrap(2, 1, 5, 50, 50));
        CHECK.records(Build::oneLine, "addTrap(0, 0, 1, 0, 0)", 0, s -> s.addTrap(0, 0, 1, 0, 0));
    }

    private static void promise4RangesOfAddTrap() {
        CHECK.answers(TrapSurvey::new, "addTrap without a line", Check.BAD_INDEX, s -> s.addTrap(0, 0, 1, 0, 0));
        CHECK.answers(Build::oneLine, "addTrap(-1, ..)", Check.BAD_INDEX, s -> s.addTrap(-1, 0, 1, 0, 0));
        CHECK.answers(Build::oneLine, "addTrap(1, ..)", Check.BAD_INDEX, s -> s.addTrap(1, 0, 1, 0, 0));
        CHECK.answers(Build::oneLine, "addTrap(8, ..)", Check.BAD_INDEX, s -> s.addTrap(8, 0, 1, 0, 0));
        CHECK.answers(Build::oneLine, "kind -1", Check.BAD_VALUE, s -> s.addTrap(0, -1, 1, 0, 0));
        CHECK.answers(Build::oneLine, "kind 3", Check.BAD_VALUE, s -> s.addTrap(0, 3, 1, 0, 0));
        CHECK.answers(Build::oneLine, "size 0", Check.BAD_VALUE, s -> s.addTrap(0, 0, 0, 0, 0));
        CHECK.answers(Build::oneLine, "size 10", Check.BAD_VALUE, s -> s.addTrap(0, 0, 10, 0, 0));
        CHECK.answers(Build::oneLine, "x -1", Check.BAD_VALUE, s -> s.addTrap(0, 0, 1, -1, 0));
        CHECK.answers(Build::oneLine, "x 51", Check.BAD_VALUE, s -> s.addTrap(0, 0, 1, 51, 0));
        CHECK.answers(Build::oneLine, "y -1", Check.BAD_VALUE, s -> s.addTrap(0, 0, 1, 0, -1));
        CHECK.answers(Build::oneLine, "y 51", Check.BAD_VALUE, s -> s.addTrap(0, 0, 1, 0, 51));
        CHECK.answers(Build::oneLine, "all wrong", Check.BAD_INDEX, s -> s.addTrap(1, 3, 0, 51, -1));
        CHECK.answers(Build::fullOfTraps, "addTrap when full", Check.FULL, s -> s.addTrap(0, 2, 9, 50, 50));
        CHECK.answers(Build::fullOfTraps, "no line, full", Check.BAD_INDEX, s -> s.addTrap(1, 2, 9, 50, 50));
        CHECK.answers(Build::fullOfTraps, "no kind, full", Check.BAD_VALUE, s -> s.addTrap(0, 3, 9, 50, 50));
        CHECK.answers(Build::fullOfTraps, "no size, full", Check.BAD_VALUE, s -> s.addTrap(0, 2, 10, 50, 50));
        CHECK.answers(Build::fullOfTraps, "no x, full", Check.BAD_VALUE, s -> s.addTrap(0, 2, 9, 51, 50));
        CHECK.answers(Build::fullOfTraps, "no y, full", Check.BAD_VALUE, s -> s.addTrap(0, 2, 9, 50, 51));
    }

    private static void promise4TrapsAfterUndoAreNew() {
        TrapSurvey x = Build.oneLine();
        x.addTrap(0, 2, 9, 50, 50);
        x.read(0, 160, 160, 40);
        x.pass(3);
        x.undo();
        x.undo();
        x.undo();
        CHECK.due("addTrap(0, 1, 2, 3, 4)", 0, x.addTrap(0, 1, 2, 3, 4));
        CHECK.same("the plant", "counts 1 1 24 20 90 0 0 0 / header 10 / header 10 / header 10 / line 1"
                + " / trap 0 1 2 3 4 0 -1 1 lost 0", Picture.of(x));
    }

    private static void promise5MoveLine() {
        TrapSurvey x = Build.plant();
        CHECK.due("moveLine(1, 0)", 2, x.moveLine(1, 0));
        CHECK.due("headerOf(1)", 0, x.headerOf(1));
        CHECK.due("trap(3, 7)", 0, x.trap(3, 7));
        CHECK.due("trap(1, 5)", 2, x.trap(1, 5));
        CHECK.due("loss(1)", 110, x.loss(1));
        CHECK.due("moveLine(1, 1)", 0, x.moveLine(1, 1));
        CHECK.due("loss(1)", 80, x.loss(1));
        CHECK.due("moveLine(1, 1) again", 1, x.moveLine(1, 1));
        CHECK.due("headerOf(0)", 0, x.headerOf(0));
        CHECK.due("headerOf(2)", 0, x.headerOf(2));
        CHECK.answers(TrapSurvey::new, "moveLine without a line", Check.BAD_INDEX, s -> s.moveLine(0, 0));
        CHECK.answers(Build::plant, "moveLine(-1, 0)", Check.BAD_INDEX, s -> s.moveLine(-1, 0));
        CHECK.answers(Build::plant, "moveLine(3, 0)", Check.BAD_INDEX, s -> s.moveLine(3, 0));
        CHECK.answers(Build::plant, "moveLine(0, -1)", Check.BAD_INDEX, s -> s.moveLine(0, -1));
        CHECK.answers(Build::plant, "moveLine(0, 3)", Check.BAD_INDEX, s -> s.moveLine(0, 3));
        CHECK.answers(Build::plant, "moveLine(3, 3)", Check.BAD_INDEX, s -> s.moveLine(3, 3));
        CHECK.records(Build::plant, "moveLine(2, 2)", 0, s -> s.moveLine(2, 2));
        CHECK.records(Build::plant, "moveLine(1, 2)", 2, s -> s.moveLine(1, 2));
    }

    private static void promise6SetWork() {
        TrapSurvey x = new TrapSurvey();
        CHECK.due("setWork(1, 1000, 400)", 24, x.setWork(1, 1000, 400));
        CHECK.due("count(2)", 1, x.count(2));
        CHECK.due("count(3)", 1000, x.count(3));
        CHECK.due("count(4)", 400, x.count(4));
        CHECK.due("setWork(24, 1, 1)", 1, x.setWork(24, 1, 1));
        CHECK.due("count(2)", 24, x.count(2));
        CHECK.due("count(3)", 1, x.count(3));
        CHECK.due("count(4)", 1, x.count(4));
        CHECK.due("setWork(7, 2, 3)", 24, x.setWork(7, 2, 3));
        CHECK.due("setWork(8, 2, 3)", 7, x.setWork(8, 2, 3));
        CHECK.answers(Build::plant, "hours 0", Check.BAD_VALUE, s -> s.setWork(0, 1, 1));
        CHECK.answers(Build::plant, "hours 25", Check.BAD_VALUE, s -> s.setWork(25, 1, 1));
        CHECK.answers(Build::plant, "price 0", Check.BAD_VALUE, s -> s.setWork(1, 0, 1));
        CHECK.answers(Build::plant, "price 1001", Check.BAD_VALUE, s -> s.setWork(1, 1001, 1));
        CHECK.answers(Build::plant, "interval 0", Check.BAD_VALUE, s -> s.setWork(1, 1, 0));
        CHECK.answers(Build::plant, "interval 401", Check.BAD_VALUE, s -> s.setWork(1, 1, 401));
        CHECK.records(Build::plant, "setWork(3, 4, 5)", 24, s -> s.setWork(3, 4, 5));
        CHECK.records(Build::plant, "setWork(24, 20, 90)", 24, s -> s.setWork(24, 20, 90));
    }

    private static void promise7Count() {
        TrapSurvey x = Build.plant();
        x.setWork(11, 12, 13);
        x.pass(14);
        x.repair(1);
        x.repair(2);
        int[] want = {3, 5, 11, 12, 13, 14, 90 + 120, 2};
        for (int what = 0; what < want.length; what++) {
            CHECK.due("count(" + what + ")", want[what], x.count(what));
            int which = what;
            int due = Build.plant().count(what);
            CHECK.answers(Build::plant, "count(" + what + ")", due, s -> s.count(which));
        }
        CHECK.answers(Build::plant, "count(-1)", Check.BAD_VALUE, s -> s.count(-1));
        CHECK.answers(Build::plant, "count(8)", Check.BAD_VALUE, s -> s.count(8));
    }

    private static void promise8Trap() {
        TrapSurvey x = Build.plant();
        x.pass(6);
        x.read(3, 200, 200, 0);
        int[] of1 = {1, 1, 2, 5, 10, 2, 0, 2};
        int[] of2 = {2, 2, 9, 40, 41, 3, 0, 0};
        int[] of3 = {1, 0, 1, 7, 8, 1, 6, 2};
        int[] of4 = {0, 2, 4, 50, 1, 1, 0, 0};
        for (int what = 0; what < 8; what++) {
            CHECK.due("trap(1, " + what + ")", of1[what], x.trap(1, what));
            CHECK.due("trap(2, " + what + ")", of2[what], x.trap(2, what));
            CHECK.due("trap(3, " + what + ")", of3[what], x.trap(3, what));
            CHECK.due("trap(4, " + what + ")", of4[what], x.trap(4, what));
        }
        CHECK.answers(Build::plant, "trap(3, 6)", Check.NONE, s -> s.trap(3, 6));
        CHECK.answers(Build::plant, "trap(0, -1)", Check.BAD_VALUE, s -> s.trap(0, -1));
        CHECK.answers(Build::plant, "trap(0, 8)", Check.BAD_VALUE, s -> s.trap(0, 8));
        CHECK.answers(Build::plant, "trap(-1, 0)", Check.BAD_INDEX, s -> s.trap(-1, 0));
        CHECK.answers(Build::plant, "trap(5, 0)", Check.BAD_INDEX, s -> s.trap(5, 0));
        CHECK.answers(Build::plant, "trap(5, 8)", Check.BAD_INDEX, s -> s.trap(5, 8));
        CHECK.answers(Build::fullOfTraps, "trap(16, 0)", Check.BAD_INDEX, s -> s.trap(16, 0));
        CHECK.answers(TrapSurvey::new, "trap(0, 0) without traps", Check.BAD_INDEX, s -> s.trap(0, 0));
    }

    private static void promise9HeaderOf() {
        CHECK.answers(Build::plant, "headerOf(0)", 0, s -> s.headerOf(0));
        CHECK.answers(Build::plant, "headerOf(1)", 2, s -> s.headerOf(1));
        CHECK.answers(Build::oneLine, "headerOf(0)", 1, s -> s.headerOf(0));
        CHECK.answers(Build::plant, "headerOf(-1)", Check.BAD_INDEX, s -> s.headerOf(-1));
        CHECK.answers(Build::plant, "headerOf(3)", Check.BAD_INDEX, s -> s.headerOf(3));
        CHECK.answers(Build::fullOfLines, "headerOf(7)", 1, s -> s.headerOf(7));
        CHECK.answers(Build::fullOfLines, "headerOf(8)", Check.BAD_INDEX, s -> s.headerOf(8));
        CHECK.answers(TrapSurvey::new, "headerOf(0) without lines", Check.BAD_INDEX, s -> s.headerOf(0));
    }

    private static void promise10Pressure() {
        CHECK.answers(Build::plant, "pressure(0)", 10, s -> s.pressure(0));
        CHECK.answers(Build::plant, "pressure(1)", 7, s -> s.pressure(1));
        CHECK.answers(Build::plant, "pressure(2)", 20, s -> s.pressure(2));
        CHECK.answers(Build::plant, "pressure(-1)", Check.BAD_INDEX, s -> s.pressure(-1));
        CHECK.answers(Build::plant, "pressure(3)", Check.BAD_INDEX, s -> s.pressure(3));
    }
}
