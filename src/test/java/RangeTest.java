/**
 * Promises 2 to 14, 22, 24, 26 and 30: of each range of an argument the least and the largest value
 * are taken, and the next ones beyond either, and the farthest, are refused.
 */
public final class RangeTest {
    private static final Check CHECK = new Check("RangeTest");

    public static void main(String[] args) {
        promise2Header();
        promise2Pressure();
        promise3Header();
        promise4Kind();
        promise4Size();
        promise4X();
        promise4Y();
        promise5Header();
        promise6Hours();
        promise6Price();
        promise6Interval();
        promise7What();
        promise8What();
        promise10Header();
        inletOfAReading();
        outletOfAReading();
        cyclesOfAReading();
        promise13Days();
        promise14State();
        promise17Header();
        promise18Trap();
        promise22Rank();
        promise24Budget();
        promise26Index();
        promise30Code();
        CHECK.end();
    }

    private static void isRefusedBeyond(int least, int most, String call, long refusal, Check.OpenCall calling) {
        CHECK.refuses(Build::plant, call, refusal, calling, Check.beyond(least, most));
    }

    /** "header: 0 to 2"; "BAD_INDEX if there is no such header". */
    private static void promise2Header() {
        CHECK.records(Build::plant, "setPressure(0, 5)", 10, s -> s.setPressure(0, 5));
        CHECK.records(Build::plant, "setPressure(2, 5)", 20, s -> s.setPressure(2, 5));
        isRefusedBeyond(0, 2, "setPressure(.., 5)", Check.BAD_INDEX, (s, v) -> s.setPressure(v, 5));
    }

    /** "pressure: 1 to 20"; "BAD_VALUE if pressure is out of range". */
    private static void promise2Pressure() {
        for (int header = 0; header <= 2; header++) {
            int one = header;
            TrapSurvey x = new TrapSurvey();
            CHECK.due("setPressure(" + one + ", 1)", 10, x.setPressure(one, 1));
            CHECK.due("pressure(" + one + ")", 1, x.pressure(one));
            CHECK.due("setPressure(" + one + ", 20)", 1, x.setPressure(one, 20));
            CHECK.due("pressure(" + one + ")", 20, x.pressure(one));
            isRefusedBeyond(1, 20, "setPressure(" + one + ", ..)", Check.BAD_VALUE, (s, v) -> s.setPressure(one, v));
        }
    }

    /** "header: 0 to 2"; "BAD_INDEX if there is no such header". */
    private static void promise3Header() {
        TrapSurvey x = new TrapSurvey();
        CHECK.due("addLine(0)", 0, x.addLine(0));
        CHECK.due("headerOf(0)", 0, x.headerOf(0));
        CHECK.due("addLine(2)", 1, x.addLine(2));
        CHECK.due("headerOf(1)", 2, x.headerOf(1));
        isRefusedBeyond(0, 2, "addLine(..)", Check.BAD_INDEX, TrapSurvey::addLine);
    }

    private static void isTakenAs(int what, int least, int most, String call, Check.OpenCall calling) {
        TrapSurvey x = Build.plant();
        CHECK.due(call + " with " + least, 5, calling.with(x, least));
        CHECK.due("trap(5, " + what + ") after " + call, least, x.trap(5, what));
        CHECK.due(call + " with " + most, 6, calling.with(x, most));
        CHECK.due("trap(6, " + what + ") after " + call, most, x.trap(6, what));
        isRefusedBeyond(least, most, call, Check.BAD_VALUE, calling);
    }

    /** "kind: 0 to 2". */
    private static void promise4Kind() {
        isTakenAs(1, 0, 2, "addTrap(2, .., 1, 0, 0)", (s, v) -> s.addTrap(2, v, 1, 0, 0));
    }

    /** "size: 1 to 9". */
    private static void promise4Size() {
        isTakenAs(2, 1, 9, "addTrap(2, 0, .., 0, 0)", (s, v) -> s.addTrap(2, 0, v, 0, 0));
    }

    /** "x: 0 to 50". */
    private static void promise4X() {
        isTakenAs(3, 0, 50, "addTrap(2, 0, 1, .., 0)", (s, v) -> s.addTrap(2, 0, 1, v, 0));
    }

    /** "y: 0 to 50". */
    private static void promise4Y() {
        isTakenAs(4, 0, 50, "addTrap(2, 0, 1, 0, ..)", (s, v) -> s.addTrap(2, 0, 1, 0, v));
    }

    /** "header: 0 to 2"; "BAD_INDEX if there is no such line or header". */
    private static void promise5Header() {
        TrapSurvey x = Build.plant();
        CHECK.due("moveLine(1, 0)", 2, x.moveLine(1, 0));
        CHECK.due("headerOf(1)", 0, x.headerOf(1));
        CHECK.due("moveLine(1, 2)", 0, x.moveLine(1, 2));
        CHECK.due("headerOf(1)", 2, x.headerOf(1));
        isRefusedBeyond(0, 2, "moveLine(1, ..)", Check.BAD_INDEX, (s, v) -> s.moveLine(1, v));
    }

    private static void isSetAs(int what, int least, int most, String call, Check.OpenCall calling) {
        TrapSurvey x = Build.plant();
        calling.with(x, least);
        CHECK.due("count(" + what + ") after " + call, least, x.count(what));
        calling.with(x, most);
        CHECK.due("count(" + what + ") after " + call, most, x.count(what));
        CHECK.records(Build::plant, call + " with " + least, 24, s -> calling.with(s, least));
        CHECK.records(Build::plant, call + " with " + most, 24, s -> calling.with(s, most));
        isRefusedBeyond(least, most, call, Check.BAD_VALUE, calling);
    }

    /** "hours: a day, 1 to 24". */
    private static void promise6Hours() {
        isSetAs(2, 1, 24, "setWork(.., 20, 90)", (s, v) -> s.setWork(v, 20, 90));
    }

    /** "price: 1 to 1000". */
    private static void promise6Price() {
        isSetAs(3, 1, 1000, "setWork(24, .., 90)", (s, v) -> s.setWork(24, v, 90));
    }

    /** "interval: 1 to 400". */
    private static void promise6Interval() {
        isSetAs(4, 1, 400, "setWork(24, 20, ..)", (s, v) -> s.setWork(24, 20, v));
    }

    /** "what: 0 lines .. 7 how many repairs there were"; "BAD_VALUE if what out of range". */
    private static void promise7What() {
        CHECK.answers(Build::plant, "count(0)", 3, s -> s.count(0));
        CHECK.answers(Build::plant, "count(7)", 0, s -> s.count(7));
        isRefusedBeyond(0, 7, "count(..)", Check.BAD_VALUE, TrapSurvey::count);
    }

    /** "what: 0 its line .. 7 its header"; "BAD_VALUE if what is out of range". */
    private static void promise8What() {
        CHECK.answers(Build::plant, "trap(1, 0)", 1, s -> s.trap(1, 0));
        CHECK.answers(Build::plant, "trap(1, 7)", 2, s -> s.trap(1, 7));
        isRefusedBeyond(0, 7, "trap(1, ..)", Check.BAD_VALUE, (s, v) -> s.trap(1, v));
    }

    /** "header: 0 to 2"; "BAD_INDEX if there is no such header". */
    private static void promise10Header() {
        CHECK.answers(Build::plant, "pressure(0)", 10, s -> s.pressure(0));
        CHECK.answers(Build::plant, "pressure(2)", 20, s -> s.pressure(2));
        isRefusedBeyond(0, 2, "pressure(..)", Check.BAD_INDEX, TrapSurvey::pressure);
    }

    private static void isReadAs(int value, int state, String reading, Check.OpenCall read, Check.OpenCall judge) {
        CHECK.records(Build::plant, "read" + reading + " with " + value, state, s -> read.with(s, value));
        CHECK.answers(Build::plant, "judge" + reading + " with " + value, state, s -> judge.with(s, value));
    }

    /** "inlet: 0 to 300", of read (promise 11) and of judge (promise 12). */
    private static void inletOfAReading() {
        Check.OpenCall read = (s, v) -> s.read(0, v, 100, 30);
        Check.OpenCall judge = (s, v) -> s.judge(0, v, 100, 30);
        isReadAs(0, 5, "(0, .., 100, 30)", read, judge);
        isReadAs(300, 3, "(0, .., 100, 30)", read, judge);
        isRefusedBeyond(0, 300, "read(0, .., 100, 30)", Check.BAD_VALUE, read);
        isRefusedBeyond(0, 300, "judge(0, .., 100, 30)", Check.BAD_VALUE, judge);
    }

    /** "outlet: 0 to 300", of read (promise 11) and of judge (promise 12). */
    private static void outletOfAReading() {
        Check.OpenCall read = (s, v) -> s.read(1, 300, v, 1);
        Check.OpenCall judge = (s, v) -> s.judge(1, 300, v, 1);
        isReadAs(0, 1, "(1, 300, .., 1)", read, judge);
        isReadAs(300, 3, "(1, 300, .., 1)", read, judge);
        isRefusedBeyond(0, 300, "read(1, 300, .., 1)", Check.BAD_VALUE, read);
        isRefusedBeyond(0, 300, "judge(1, 300, .., 1)", Check.BAD_VALUE, judge);
    }

    /** "cycles: 0 to 60", of read (promise 11) and of judge (promise 12). */
    private static void cyclesOfAReading() {
        Check.OpenCall read = (s, v) -> s.read(2, 300, 100, v);
        Check.OpenCall judge = (s, v) -> s.judge(2, 300, 100, v);
        isReadAs(0, 4, "(2, 300, 100, ..)", read, judge);
        isReadAs(60, 3, "(2, 300, 100, ..)", read, judge);
        isRefusedBeyond(0, 60, "read(2, 300, 100, ..)", Check.BAD_VALUE, read);
        isRefusedBeyond(0, 60, "judge(2, 300, 100, ..)", Check.BAD_VALUE, judge);
    }

    /** "days: 1 to 100"; "BAD_VALUE if days is out of range". */
    private static void promise13Days() {
        CHECK.records(Build::plant, "pass(1)", 1, s -> s.pass(1));
        CHECK.records(Build::plant, "pass(100)", 100, s -> s.pass(100));
        isRefusedBeyond(1, 100, "pass(..)", Check.BAD_VALUE, TrapSurvey::pass);
        CHECK.refuses(() -> Build.onDay(Build.plant(), 5), "pass(..) on day 5", Check.BAD_VALUE, TrapSurvey::pass,
                Check.beyond(1, 100));
    }

    /** "state: 0 to 5"; "BAD_VALUE if state is out of range". */
    private static void promise14State() {
        CHECK.answers(Build::plant, "inState(0)", 1, s -> s.inState(0));
        CHECK.answers(Build::plant, "inState(5)", 0, s -> s.inState(5));
        isRefusedBeyond(0, 5, "inState(..)", Check.BAD_VALUE, TrapSurvey::inState);
    }

    /** "header: 0 to 2"; "BAD_INDEX if there is no such header". */
    private static void promise17Header() {
        CHECK.answers(Build::plant, "headerLoss(0)", 9900, s -> s.headerLoss(0));
        CHECK.answers(Build::plant, "headerLoss(2)", 210, s -> s.headerLoss(2));
        isRefusedBeyond(0, 2, "headerLoss(..)", Check.BAD_INDEX, TrapSurvey::headerLoss);
    }

    /** "trap: its number, or -1 for all traps together"; "BAD_INDEX if there is no such trap". */
    private static void promise18Trap() {
        TrapSurvey x = Build.plant();
        x.pass(1);
        CHECK.due("lost(-1)", 242640, x.lost(-1));
        CHECK.due("lost(0)", 23760, x.lost(0));
        CHECK.due("lost(4)", 0, x.lost(4));
        isRefusedBeyond(-1, 4, "lost(..)", Check.BAD_INDEX, TrapSurvey::lost);
    }

    /** "rank: its rank, from 0"; "NONE if there are not so many; BAD_VALUE if rank is negative". */
    private static void promise22Rank() {
        CHECK.answers(Build::plant, "order(0)", 2, s -> s.order(0));
        CHECK.answers(Build::plant, "order(2), the last one", 1, s -> s.order(2));
        CHECK.refuses(Build::plant, "order(..)", Check.NONE, TrapSurvey::order, 3, 4, 5, 15, 16, 17, Integer.MAX_VALUE);
        CHECK.refuses(Build::plant, "order(..)", Check.BAD_VALUE, TrapSurvey::order, -1, -2, Integer.MIN_VALUE);
    }

    /** "budget: 0 to 10000"; "BAD_VALUE if budget is out of range". */
    private static void promise24Budget() {
        CHECK.records(Build::plant, "repairAll(0)", 0, s -> s.repairAll(0));
        CHECK.records(Build::plant, "repairAll(10000)", 3, s -> s.repairAll(10000));
        isRefusedBeyond(0, 10000, "repairAll(..)", Check.BAD_VALUE, TrapSurvey::repairAll);
    }

    /** "index: its place in the round, from 0"; "NONE if there are not so many; BAD_VALUE if index is negative". */
    private static void promise26Index() {
        CHECK.answers(Build::plant, "round(0)", 0, s -> s.round(0));
        CHECK.answers(Build::plant, "round(3), the last one", 2, s -> s.round(3));
        CHECK.refuses(Build::plant, "round(..)", Check.NONE, TrapSurvey::round, 4, 5, 6, 15, 16, 17, Integer.MAX_VALUE);
        CHECK.refuses(Build::plant, "round(..)", Check.BAD_VALUE, TrapSurvey::round, -1, -2, Integer.MIN_VALUE);
    }

    /** "code: the byte, 0 to 255"; "BAD_VALUE if code is out of range". */
    private static void promise30Code() {
        TrapSurvey x = new TrapSurvey();
        CHECK.due("type(0)", 1, x.type(0));
        CHECK.due("type(255)", 2, x.type(255));
        CHECK.due("clearText()", 2, x.clearText());
        isRefusedBeyond(0, 255, "type(..)", Check.BAD_VALUE, TrapSurvey::type);
        // As a byte, or modulo 256, these would be signs of a text without a fault.
        CHECK.refuses(() -> Build.typed(Build.plant(), "0:1/1"), "type(..)", Check.BAD_VALUE, TrapSurvey::type,
                256 + 48, 48 - 256, 65536 + 48);
    }
}
