import java.util.function.Supplier;

/**
 * "BAD_INDEX (-2): there is no such header, line, or trap": by each method that is given one, where
 * there are none yet, for the number just behind the last one, and for one that an undo took away.
 */
public final class NoSuchTest {
    private static final Check CHECK = new Check("NoSuchTest");

    private record Call(String name, Check.OpenCall calling) {
    }

    private static final Call[] OF_A_HEADER = {
        new Call("setPressure(.., 5)", (s, v) -> s.setPressure(v, 5)),
        new Call("addLine(..)", TrapSurvey::addLine),
        new Call("moveLine(0, ..)", (s, v) -> s.moveLine(0, v)),
        new Call("pressure(..)", TrapSurvey::pressure),
        new Call("headerLoss(..)", TrapSurvey::headerLoss),
    };

    private static final Call[] OF_A_LINE = {
        new Call("addTrap(.., 0, 1, 0, 0)", (s, v) -> s.addTrap(v, 0, 1, 0, 0)),
        new Call("moveLine(.., 0)", (s, v) -> s.moveLine(v, 0)),
        new Call("headerOf(..)", TrapSurvey::headerOf),
        new Call("lineLoss(..)", TrapSurvey::lineLoss),
    };

    private static final Call[] OF_A_TRAP = {
        new Call("trap(.., 0)", (s, v) -> s.trap(v, 0)),
        new Call("read(.., 160, 100, 30)", (s, v) -> s.read(v, 160, 100, 30)),
        new Call("judge(.., 160, 100, 30)", (s, v) -> s.judge(v, 160, 100, 30)),
        new Call("loss(..)", TrapSurvey::loss),
        new Call("lost(..)", TrapSurvey::lost),
        new Call("saves(..)", TrapSurvey::saves),
        new Call("repairCost(..)", TrapSurvey::repairCost),
        new Call("payback(..)", TrapSurvey::payback),
        new Call("repair(..)", TrapSurvey::repair),
        new Call("isDue(..)", TrapSurvey::isDue),
        new Call("dueOn(..)", TrapSurvey::dueOn),
    };

    public static void main(String[] args) {
        headers();
        headersWithoutLines();
        moveLineWithoutLines();
        noLineYet();
        behindTheLastLine();
        lineThatUndoTookAway();
        noTrapYet();
        behindTheLastTrap();
        trapThatUndoTookAway();
        CHECK.end();
    }

    private static void isNoSuch(Supplier<TrapSurvey> fresh, Call[] calls, int... numbers) {
        for (Call call : calls) {
            CHECK.refuses(fresh, call.name, Check.BAD_INDEX, call.calling, numbers);
        }
    }

    private static void isThere(Supplier<TrapSurvey> fresh, Call[] calls, int... numbers) {
        for (Call call : calls) {
            for (int number : numbers) {
                long got = call.calling.with(fresh.get(), number);
                CHECK.due(call.name + " with " + number + " is not BAD_INDEX", 1, got != Check.BAD_INDEX ? 1 : 0);
            }
        }
    }

    /** "There are 3 headers, numbered from 0". */
    private static void headers() {
        isThere(Build::plant, OF_A_HEADER, 0, 1, 2);
        isNoSuch(Build::plant, OF_A_HEADER, -2, -1, 3, 4, 8, 16, Integer.MIN_VALUE, Integer.MAX_VALUE);
    }

    /** The headers are there from the first, with or without lines. */
    private static void headersWithoutLines() {
        for (int header = 0; header <= 2; header++) {
            int one = header;
            CHECK.answers(TrapSurvey::new, "pressure(" + one + ")", 10, s -> s.pressure(one));
            CHECK.answers(TrapSurvey::new, "headerLoss(" + one + ")", 0, s -> s.headerLoss(one));
            CHECK.records(TrapSurvey::new, "setPressure(" + one + ", 5)", 10, s -> s.setPressure(one, 5));
            CHECK.records(TrapSurvey::new, "addLine(" + one + ")", 0, s -> s.addLine(one));
        }
        isNoSuch(TrapSurvey::new, OF_A_HEADER, -1, 3);
    }

    /** "BAD_INDEX if there is no such line or header": one of them is enough. */
    private static void moveLineWithoutLines() {
        for (int header = -1; header <= 3; header++) {
            int one = header;
            CHECK.answers(TrapSurvey::new, "moveLine(0, " + one + ")", Check.BAD_INDEX, s -> s.moveLine(0, one));
            CHECK.answers(() -> Build.lines(8), "moveLine(8, " + one + ")", Check.BAD_INDEX, s -> s.moveLine(8, one));
            CHECK.answers(() -> Build.lines(8), "moveLine(-1, " + one + ")", Check.BAD_INDEX, s -> s.moveLine(-1, one));
        }
        CHECK.answers(() -> Build.lines(8), "moveLine(7, 3)", Check.BAD_INDEX, s -> s.moveLine(7, 3));
        CHECK.answers(() -> Build.lines(8), "moveLine(7, -1)", Check.BAD_INDEX, s -> s.moveLine(7, -1));
        CHECK.records(() -> Build.lines(8), "moveLine(7, 2)", 1, s -> s.moveLine(7, 2));
    }

    private static void noLineYet() {
        isNoSuch(TrapSurvey::new, OF_A_LINE, -1, 0, 1, 7, 8, Integer.MIN_VALUE, Integer.MAX_VALUE);
    }

    private static void behindTheLastLine() {
        for (int number = 1; number <= 8; number++) {
            int lines = number;
            isThere(() -> Build.lines(lines), OF_A_LINE, 0, lines - 1);
            isNoSuch(() -> Build.lines(lines), OF_A_LINE, -1, lines, 8, Integer.MIN_VALUE, Integer.MAX_VALUE);
        }
    }

    private static void lineThatUndoTookAway() {
        for (int number = 1; number <= 8; number++) {
            int lines = number;
            Supplier<TrapSurvey> undone = () -> {
                TrapSurvey survey = Build.lines(lines);
                survey.undo();
                return survey;
            };
            isNoSuch(undone, OF_A_LINE, lines - 1);
        }
    }

    private static void noTrapYet() {
        int[] numbers = {-2, 0, 1, 15, 16, Integer.MIN_VALUE, Integer.MAX_VALUE};
        isNoSuch(TrapSurvey::new, OF_A_TRAP, numbers);
        isNoSuch(Build::oneLine, OF_A_TRAP, numbers);
        isNoSuch(Build::fullOfLines, OF_A_TRAP, numbers);
    }

    /** Of -1, lost() tells of all traps together: it is no trap to any other method. */
    private static void behindTheLastTrap() {
        for (int number = 1; number <= 16; number++) {
            int traps = number;
            isThere(() -> Build.traps(traps, 1), OF_A_TRAP, 0, traps - 1);
            isNoSuch(() -> Build.traps(traps, 1), OF_A_TRAP, -2, traps, 16, Integer.MIN_VALUE, Integer.MAX_VALUE);
        }
        for (Call call : OF_A_TRAP) {
            long want = call.name.startsWith("lost") ? 0 : Check.BAD_INDEX;
            CHECK.refuses(() -> Build.traps(16, 1), call.name, want, call.calling, -1);
        }
    }

    private static void trapThatUndoTookAway() {
        for (int number = 1; number <= 16; number++) {
            int traps = number;
            Supplier<TrapSurvey> undone = () -> {
                TrapSurvey survey = Build.traps(traps, 1);
                survey.undo();
                return survey;
            };
            isNoSuch(undone, OF_A_TRAP, traps - 1);
        }
    }
}
