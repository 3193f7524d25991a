/** Promises 30 to 33: the text. */
public final class TextTest {
    private static final Check CHECK = new Check("TextTest");

    public static void main(String[] args) {
        promise30Type();
        promise30FullText();
        promise31ClearText();
        promise32TextsWithoutFault();
        promise32WrongSigns();
        promise32EndsTooEarly();
        promise32WrongNumbers();
        promise32Traps();
        promise32LongTexts();
        promise33ReadAll();
        promise33LastReadingStays();
        promise33CyclesOfEachReading();
        promise33Faults();
        CHECK.end();
    }

    private static TrapSurvey fullText() {
        return Build.typed(Build.plant(), "0".repeat(100));
    }

    private static void promise30Type() {
        TrapSurvey x = new TrapSurvey();
        CHECK.due("type(0)", 1, x.type(0));
        CHECK.due("type(255)", 2, x.type(255));
        CHECK.due("type(32)", 3, x.type(32));
        CHECK.due("type(48)", 4, x.type(48));
        CHECK.answers(Build::plant, "type(-1)", Check.BAD_VALUE, s -> s.type(-1));
        CHECK.answers(Build::plant, "type(256)", Check.BAD_VALUE, s -> s.type(256));
        CHECK.answers(TextTest::fullText, "type(-1), full", Check.BAD_VALUE, s -> s.type(-1));
        CHECK.answers(TextTest::fullText, "type(256), full", Check.BAD_VALUE, s -> s.type(256));
        CHECK.answers(TextTest::fullText, "type(48), full", Check.FULL, s -> s.type(48));
        TrapSurvey y = Build.plant();
        y.type(48);
        CHECK.same("the plant after type(48)", Picture.of(Build.plant()), Picture.of(y));
    }

    private static void promise30FullText() {
        TrapSurvey x = new TrapSurvey();
        for (int length = 1; length <= 100; length++) {
            CHECK.due("type(32) no. " + length, length, x.type(32));
        }
        CHECK.due("type(32) no. 101", Check.FULL, x.type(32));
        CHECK.due("textFault()", 100, x.textFault());
        CHECK.due("clearText()", 100, x.clearText());
        CHECK.due("type(32) after clearText()", 1, x.type(32));
    }

    private static void promise31ClearText() {
        TrapSurvey x = Build.typed(Build.plant(), "0:1/2x");
        CHECK.due("clearText()", 6, x.clearText());
        CHECK.due("textFault()", 0, x.textFault());
        CHECK.due("clearText() again", 0, x.clearText());
        CHECK.due("type(49)", 1, x.type(49));
        CHECK.due("textFault() of the new text", 1, x.textFault());
        CHECK.same("the plant", Picture.of(Build.plant()), Picture.of(x));
        CHECK.answers(TrapSurvey::new, "clearText() of no text", 0, TrapSurvey::clearText);
    }

    /** In the plant there are the traps 0 to 4. */
    private static void fault(String text, int want) {
        CHECK.due("textFault() of '" + text + "'", want, Build.typed(Build.plant(), text).textFault());
    }

    private static void promise32TextsWithoutFault() {
        fault("0:1/1", Check.NONE);
        fault("4:300/300@60", Check.NONE);
        fault("004:000/000@000", Check.NONE);
        fault("1:23/45@6;2:3/4;3:200/100@59", Check.NONE);
        fault(" 1 : 2 / 3 @ 4 ; 0 : 1 / 2 ", Check.NONE);
        fault("   1:2/3   ", Check.NONE);
        fault("0:0/0;0:0/0;0:0/0", Check.NONE);
        CHECK.answers(() -> Build.typed(Build.plant(), "1:2/3"), "textFault()", Check.NONE, TrapSurvey::textFault);
        CHECK.answers(() -> Build.typed(Build.plant(), "1:2/x"), "textFault()", 4, TrapSurvey::textFault);
    }

    private static void promise32WrongSigns() {
        fault("x", 0);
        fault(":", 0);
        fault("  ;", 2);
        fault("-1:1/1", 0);
        fault("0x", 1);
        fault("0/1", 1);
        fault("0@", 1);
        fault("0;", 1);
        fault("0 0:1/1", 2);
        fault("0::1/1", 2);
        fault("0:x", 2);
        fault("0:1;", 3);
        fault("0:1@1", 3);
        fault("0:1:1", 3);
        fault("0:1 1/1", 4);
        fault("0:1//1", 4);
        fault("0:1/@1", 4);
        fault("0:1/1:", 5);
        fault("0:1/1/1", 5);
        fault("0:1/1 1", 6);
        fault("0:1/1x", 5);
        fault("0:1/1@@1", 6);
        fault("0:1/1@;", 6);
        fault("0:1/1@1@1", 7);
        fault("0:1/1@1 1", 8);
        fault("0:1/1@1:", 7);
        fault("0:1/1@1/", 7);
        fault("0:1/1;;", 6);
        fault("0:1/1;x", 6);
        fault("0:1/1;0:1/1;0;", 13);
        fault("0:1/1\t", 5);
        fault("\u00a00:1/1", 0);
        fault("0\u0000:1/1", 1);
        fault("0:1/1\u00ff", 5);
        fault("/", 0);
        fault("0:1/1,", 5);
    }

    private static void promise32EndsTooEarly() {
        fault("", 0);
        fault(" ", 1);
        fault("     ", 5);
        fault("0", 1);
        fault("0  ", 3);
        fault("0:", 2);
        fault("0: ", 3);
        fault("0:1", 3);
        fault("0:1/", 4);
        fault("0:1/   ", 7);
        fault("0:1/1@", 6);
        fault("0:1/1@  ", 8);
        fault("0:1/1;", 6);
        fault(" 0 : 1 / 1 ; ", 13);
        fault("0:1/1@1;", 8);
    }

    private static void promise32WrongNumbers() {
        fault("0:301/1", 2);
        fault("0:300/301", 6);
        fault("0:1/1@61", 6);
        fault("0:1/1@ 61", 7);
        fault("0:999", 2);
        fault("0:301x", 2);
        fault("0:301 5", 2);
        fault("0:0300/1", 2);
        fault("0:1/0001", 4);
        fault("0:1/1@0001", 6);
        fault("0000:1/1", 0);
        fault("  0001", 2);
        fault("0005", 0);
        fault("0:1/1;0:1/400", 10);
        fault("0:1/1;0:1/1@0060", 12);
        fault("4294967296:1/1", 0);
        fault("0:4294967297/1", 2);
        fault("0:18446744073709551617/1", 2);
        fault("0:1/1@4294967296", 6);
        fault("0".repeat(100), 0);
        fault(" " + "1".repeat(99), 1);
    }

    private static void promise32Traps() {
        fault("4:1/1", Check.NONE);
        fault("5:1/1", 0);
        fault("5", 0);
        fault(" 5x", 1);
        fault("0:1/1;5", 6);
        fault("0:1/1; 16:1/1", 7);
        CHECK.due("textFault() without traps", 0, Build.typed(new TrapSurvey(), "0:1/1").textFault());
        CHECK.due("textFault() without traps", 1, Build.typed(new TrapSurvey(), " 0:1/1").textFault());
        TrapSurvey full = Build.typed(Build.fullOfTraps(), "15:1/1;015:2/2");
        CHECK.due("textFault() of the trap 15", Check.NONE, full.textFault());
        CHECK.due("textFault() of the trap 16", 14 + 1, Build.typed(full, ";16").textFault());
        TrapSurvey x = Build.typed(Build.oneLine(), "0:1/1");
        CHECK.due("textFault() before addTrap", 0, x.textFault());
        x.addTrap(0, 0, 1, 0, 0);
        CHECK.due("textFault() after addTrap", Check.NONE, x.textFault());
        x.undo();
        CHECK.due("textFault() after undo()", 0, x.textFault());
    }

    private static void promise32LongTexts() {
        String sixteen = "0:1/1;".repeat(15) + "0:1/1";
        fault(sixteen, Check.NONE);
        fault(sixteen + "     ", Check.NONE);
        fault(sixteen + ";", 96);
        fault(sixteen + ";0:1/", 100);
        fault(sixteen + ";0:1x", 99);
        fault(sixteen + ";0:1;", 99);
        fault(sixteen + "@ 60", Check.NONE);
        fault(sixteen + "@ 61", 97);
        fault(" ".repeat(95) + "0:1/1", Check.NONE);
        fault(" ".repeat(96) + "0:1/1", 100);
        fault("0:1/1" + " ".repeat(94) + "x", 99);
        CHECK.due("readAll() of 16", 16, Build.typed(Build.plant(), sixteen).readAll());
    }

    private static void promise33ReadAll() {
        TrapSurvey x = Build.plant();
        x.pass(8);
        Build.typed(x, " 3:300/300@60 ; 1 : 79/300 ;004:160/100");
        CHECK.due("readAll()", 3, x.readAll());
        CHECK.due("trap(3, 5)", 3, x.trap(3, 5));
        CHECK.due("trap(3, 6)", 8, x.trap(3, 6));
        CHECK.due("trap(1, 5)", 5, x.trap(1, 5));
        CHECK.due("trap(1, 6)", 8, x.trap(1, 6));
        CHECK.due("trap(4, 5)", 4, x.trap(4, 5));
        CHECK.due("trap(4, 6)", 8, x.trap(4, 6));
        CHECK.due("trap(0, 5)", 3, x.trap(0, 5));
        CHECK.due("trap(0, 6)", 0, x.trap(0, 6));
        CHECK.due("undo()", 4, x.undo());
        CHECK.due("trap(3, 6)", Check.NONE, x.trap(3, 6));
        CHECK.due("trap(1, 5)", 2, x.trap(1, 5));
        CHECK.due("count(5)", 8, x.count(5));
        CHECK.due("readAll() again: the text stays", 3, x.readAll());
        CHECK.due("trap(3, 5)", 3, x.trap(3, 5));
        CHECK.due("clearText()", 39, x.clearText());
        CHECK.records(() -> Build.typed(Build.plant(), "0:1/1;1:1/1"), "readAll()", 2, TrapSurvey::readAll);
        TrapSurvey full = Build.typed(Build.fullOfTraps(), "15:160/100@1");
        CHECK.due("readAll() of the trap 15", 1, full.readAll());
        CHECK.due("trap(15, 5)", 1, full.trap(15, 5));
        CHECK.due("trap(14, 5)", 0, full.trap(14, 5));
    }

    private static void promise33LastReadingStays() {
        TrapSurvey x = Build.typed(Build.plant(), "0:160/100@30;1:1/1;0:160/100@14");
        CHECK.due("readAll()", 3, x.readAll());
        CHECK.due("trap(0, 5)", 1, x.trap(0, 5));
        TrapSurvey y = Build.typed(Build.plant(), "0:160/100@14;0:160/100@15");
        CHECK.due("readAll()", 2, y.readAll());
        CHECK.due("trap(0, 5)", 2, y.trap(0, 5));
    }

    private static void promise33CyclesOfEachReading() {
        TrapSurvey x = Build.typed(Build.plant(), "0:160/100@1;4:160/100");
        CHECK.due("readAll()", 2, x.readAll());
        CHECK.due("trap(0, 5)", 1, x.trap(0, 5));
        CHECK.due("trap(4, 5), no cycles", 4, x.trap(4, 5));
        x.clearText();
        Build.typed(x, "0:160/100;4:160/100@1");
        CHECK.due("readAll() of another text", 2, x.readAll());
        CHECK.due("trap(0, 5), no cycles", 4, x.trap(0, 5));
        CHECK.due("trap(4, 5)", 1, x.trap(4, 5));
    }

    private static void promise33Faults() {
        String[] texts = {"", "0", "0:1/1;", "5:1/1", "0:1/1;5:1/1", "0:1/1@61", "0:1/1;1:2/2x"};
        for (String text : texts) {
            CHECK.answers(() -> Build.typed(Build.plant(), text), "readAll() of '" + text + "'",
                    Check.BAD_STATE, TrapSurvey::readAll);
        }
        CHECK.answers(() -> Build.typed(new TrapSurvey(), "0:1/1"), "readAll() without traps",
                Check.BAD_STATE, TrapSurvey::readAll);
    }
}
