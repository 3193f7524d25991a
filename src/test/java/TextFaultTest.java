/**
 * Promise 32, 'Text': a fault at each place at which it may lie, a text that ends too early at each
 * place, numbers on their limits and beyond, and blanks where they may stand and where they may not.
 */
public final class TextFaultTest {
    private static final Check CHECK = new Check("TextFaultTest");
    private static final String DIGITS = "0123456789";
    private static final String FOUR_PARTS = "0:1/2@3";

    public static void main(String[] args) {
        wrongByteForTheTrap();
        wrongByteForTheInlet();
        wrongByteForTheOutlet();
        wrongByteForTheCycles();
        wrongByteBehindTheTrap();
        wrongByteBehindTheInlet();
        wrongByteBehindTheOutlet();
        wrongByteBehindTheCycles();
        wrongByteInALaterReading();
        endsTooEarly();
        endsTooEarlyWithBlanks();
        endsTooEarlyAtAHundredBytes();
        oneToThreeDigits();
        moreThanThreeDigits();
        numberOfTheTrap();
        numberOfTheInlet();
        numberOfTheOutlet();
        numberOfTheCycles();
        whateverFollows();
        theFirstOfSeveralFaults();
        blanksWhereTheyMayStand();
        blanksWithinNumbers();
        otherWhiteSpace();
        asManyReadingsAsThereIsRoomFor();
        trapsOfThePresent();
        CHECK.end();
    }

    /** The plant has the traps 0 to 4. */
    private static void fault(String text, int want) {
        TrapSurvey x = Build.typed(Build.plant(), text);
        CHECK.due("textFault() of '" + text + "'", want, x.textFault());
        CHECK.due("readAll() is refused, of '" + text + "'", want == Check.NONE ? 0 : 1,
                x.readAll() == Check.BAD_STATE ? 1 : 0);
    }

    /** Behind the beginning of a text each byte that is not one of those is its fault. */
    private static void allowsOnly(String beginning, String allowed) {
        for (int code = 0; code <= 255; code++) {
            if (allowed.indexOf((char) code) < 0) {
                fault(beginning + (char) code, beginning.length());
                fault(beginning + (char) code + ":1/1", beginning.length());
            } else if (code != ' ') {
                long found = Build.typed(Build.plant(), beginning + (char) code).textFault();
                CHECK.due("'" + beginning + (char) code + "' is allowed", 1, found == beginning.length() ? 0 : 1);
            }
        }
    }

    /** Where a number is due: a blank, or a digit of a number that is in its range. */
    private static void wrongByteForTheTrap() {
        allowsOnly("", " 01234");
        allowsOnly(" ", " 01234");
    }

    private static void wrongByteForTheInlet() {
        allowsOnly("0:", " " + DIGITS);
        allowsOnly("0 : ", " " + DIGITS);
    }

    private static void wrongByteForTheOutlet() {
        allowsOnly("0:1/", " " + DIGITS);
        allowsOnly("0:1 / ", " " + DIGITS);
    }

    private static void wrongByteForTheCycles() {
        allowsOnly("0:1/2@", " " + DIGITS);
        allowsOnly("0:1/2 @ ", " " + DIGITS);
    }

    /** Behind a number: a digit more, or the sign that is due; behind a blank that sign alone. */
    private static void wrongByteBehindTheTrap() {
        allowsOnlyBehindANumber("0", 0, ":");
        allowsOnlyBehindANumber("004", 0, ":");
        allowsOnly("0 ", " :");
        allowsOnly("  4  ", " :");
    }

    private static void wrongByteBehindTheInlet() {
        allowsOnlyBehindANumber("0:1", 2, "/");
        allowsOnlyBehindANumber("0:300", 2, "/");
        allowsOnly("0:1 ", " /");
    }

    private static void wrongByteBehindTheOutlet() {
        allowsOnlyBehindANumber("0:1/2", 4, "@;");
        allowsOnlyBehindANumber("0:1/300", 4, "@;");
        allowsOnly("0:1/2 ", " @;");
    }

    private static void wrongByteBehindTheCycles() {
        allowsOnlyBehindANumber("0:1/2@3", 6, ";");
        allowsOnlyBehindANumber("0:1/2@060", 6, ";");
        allowsOnly("0:1/2@3 ", " ;");
    }

    /** A digit goes on with the number, whose fault, if it has one then, lies at its first digit. */
    private static void allowsOnlyBehindANumber(String beginning, int firstDigit, String signs) {
        for (int code = 0; code <= 255; code++) {
            String text = beginning + (char) code;
            boolean isDigit = DIGITS.indexOf((char) code) >= 0;
            if (code != ' ' && !isDigit && signs.indexOf((char) code) < 0) {
                fault(text, beginning.length());
            } else if (isDigit && beginning.length() - firstDigit == 3) {
                fault(text, firstDigit);
            }
        }
        for (char sign : signs.toCharArray()) {
            fault(beginning + sign, beginning.length() + 1);
        }
    }

    private static void wrongByteInALaterReading() {
        allowsOnly("0:1/2;", " 01234");
        allowsOnly("0:1/2@3;", " 01234");
        allowsOnly("0:1/2@3;1:4/5@6;", " 01234");
        allowsOnly("0:1/2;1 ", " :");
        allowsOnly("0:1/2;1:", " " + DIGITS);
        allowsOnly("0:1/2@3;1:4/5 ", " @;");
        allowsOnly("0:1/2@3;1:4/5@6 ", " ;");
    }

    /** "or its length with all blanks, if it ends too early": each beginning but those that are a list. */
    private static void endsTooEarly() {
        String text = "0:1/2@3;1:4/5";
        for (int length = 0; length < text.length(); length++) {
            boolean isList = length == 5 || length == 7;
            fault(text.substring(0, length), isList ? Check.NONE : length);
        }
        fault(text, Check.NONE);
    }

    private static void endsTooEarlyWithBlanks() {
        String text = "0:1/2@3;1:4/5";
        for (int length = 0; length < text.length(); length++) {
            boolean isList = length == 5 || length == 7;
            for (int blanks = 1; blanks <= 3; blanks++) {
                fault(text.substring(0, length) + " ".repeat(blanks), isList ? Check.NONE : length + blanks);
                fault(" ".repeat(blanks) + text.substring(0, length), isList ? Check.NONE : length + blanks);
            }
        }
    }

    private static void endsTooEarlyAtAHundredBytes() {
        fault(" ".repeat(99), 99);
        fault(" ".repeat(100), 100);
        fault(" ".repeat(99) + "0", 100);
        fault(" ".repeat(96) + "0:1/", 100);
        fault("0:1/" + " ".repeat(96), 100);
        fault(" ".repeat(95) + "0:1/2", Check.NONE);
        fault(" ".repeat(94) + "0:1/2@", 100);
        fault(" ".repeat(93) + "0:1/2@3", Check.NONE);
        fault(" ".repeat(92) + "0:1/2@3;", 100);
        fault("0:1/2" + " ".repeat(94) + ";", 100);
        fault("0:1/2" + " ".repeat(94) + ":", 99);
        fault("0:1/2" + " ".repeat(95), Check.NONE);
    }

    /** "Numbers have 1 to 3 digits (007 is 7)". */
    private static void oneToThreeDigits() {
        for (String number : new String[] {"3", "03", "003"}) {
            TrapSurvey x = Build.typed(Build.plant(), number + ":1/1");
            CHECK.due("readAll() of the trap " + number, 1, x.readAll());
            CHECK.due("trap(3, 6) of the trap " + number, 0, x.trap(3, 6));
        }
        isReadAs("0:080/7@15", 2, 80, 7, 15);
        isReadAs("0:80/07@15", 2, 80, 7, 15);
        isReadAs("0:079/007@15", 5, 79, 7, 15);
        isReadAs("00:7/7@60", 5, 7, 7, 60);
        isReadAs("000:160/7@1", 1, 160, 7, 1);
        isReadAs("0:160/7@01", 1, 160, 7, 1);
        isReadAs("0:160/7@001", 1, 160, 7, 1);
        isReadAs("0:160/7@014", 1, 160, 7, 14);
        isReadAs("0:160/7@029", 2, 160, 7, 29);
        isReadAs("0:160/7@030", 3, 160, 7, 30);
        isReadAs("0:160/120", 4, 160, 120, 0);
        isReadAs("0:160/120@0", 4, 160, 120, 0);
        isReadAs("0:160/120@000", 4, 160, 120, 0);
        isReadAs("0:160/121", 1, 160, 121, 0);
    }

    private static void isReadAs(String text, int want, int inlet, int outlet, int cycles) {
        TrapSurvey x = Build.typed(Build.oneTrap(Build.BUCKET, 1), text);
        CHECK.due("readAll() of '" + text + "'", 1, x.readAll());
        CHECK.due("trap(0, 5) after '" + text + "'", want, x.trap(0, 5));
        CHECK.due("judge() instead of '" + text + "'", want, x.judge(0, inlet, outlet, cycles));
    }

    /** "or has more than three digits, its first digit, whatever follows; 0005 has too many". */
    private static void moreThanThreeDigits() {
        String[] beginnings = {"", "0:", "0:1/", "0:1/2@", "0:1/2;", "0:1/2;1:", "0:1/2@3;1:4/", "0:1/2;1:4/5@"};
        String[] numbers = {"0000", "0001", "0005", "00000", "000001", "1000", "9999", "65536", "65537",
            "2147483648", "4294967296", "4294967297", "18446744073709551616", "18446744073709551617"};
        for (String beginning : beginnings) {
            for (String number : numbers) {
                fault(beginning + number, beginning.length());
                fault(beginning + "  " + number, beginning.length() + 2);
                fault(beginning + number + " ", beginning.length());
            }
        }
        fault("0000:1/2", 0);
        fault("0:0001/2", 2);
        fault("0:1/0002", 4);
        fault("0:1/2@0003", 6);
        fault("0:1/" + "0".repeat(96), 4);
    }

    private static void isOnItsLimit(String beginning, String most, String beyond, String rest) {
        fault(beginning + "0" + rest, Check.NONE);
        fault(beginning + "000" + rest, Check.NONE);
        fault(beginning + most + rest, Check.NONE);
        fault(beginning + beyond + rest, beginning.length());
        fault(beginning + "999" + rest, beginning.length());
    }

    /** "names no trap": the number behind the last one, of as many traps as there are. */
    private static void numberOfTheTrap() {
        isOnItsLimit("", "4", "5", ":1/2");
        isOnItsLimit("", "04", "05", ":1/2");
        isOnItsLimit("", "004", "005", ":1/2@3");
        isOnItsLimit("0:1/2;", "4", "5", ":1/2");
        isOnItsLimit("0:1/2@3 ; ", "004", "005", ":1/2");
        for (int traps = 0; traps <= 16; traps++) {
            TrapSurvey x = Build.oneLine();
            for (int trap = 0; trap < traps; trap++) {
                x.addTrap(0, 0, 1, 0, 0);
            }
            Build.typed(x, traps + ":1/2");
            CHECK.due("textFault() of the trap " + traps, 0, x.textFault());
            CHECK.due("readAll() of the trap " + traps, Check.BAD_STATE, x.readAll());
            x.clearText();
            Build.typed(x, Math.max(0, traps - 1) + ":1/2");
            CHECK.due("textFault() of the last of " + traps, traps == 0 ? 0 : Check.NONE, x.textFault());
            CHECK.due("readAll() of the last of " + traps, traps == 0 ? Check.BAD_STATE : 1, x.readAll());
        }
    }

    /** "its inlet and its outlet temperature", 0 to 300. */
    private static void numberOfTheInlet() {
        isOnItsLimit("0:", "300", "301", "/2");
        isOnItsLimit("0:1/2;1:", "300", "301", "/2@3");
        fault("0:299/2", Check.NONE);
        fault("0:310/2", 2);
        fault("0:400/2", 2);
    }

    private static void numberOfTheOutlet() {
        isOnItsLimit("0:1/", "300", "301", "");
        isOnItsLimit("0:1/", "300", "301", "@3");
        isOnItsLimit("0:1/", "300", "301", ";1:2/3");
        isOnItsLimit("0:1/2;1:2/", "300", "301", "");
        fault("0:1/299", Check.NONE);
        fault("0:1/310", 4);
        fault("0:1/400", 4);
    }

    /** "and its cycles (0 without them)", 0 to 60. */
    private static void numberOfTheCycles() {
        isOnItsLimit("0:1/2@", "60", "61", "");
        isOnItsLimit("0:1/2@", "060", "061", "");
        isOnItsLimit("0:1/2@", "60", "61", ";1:2/3");
        isOnItsLimit("0:1/2;1:2/3@", "60", "61", "");
        fault("0:1/2@59", Check.NONE);
        fault("0:1/2@70", 6);
        fault("0:1/2@100", 6);
        fault("0:1/2@300", 6);
    }

    /** "for a number that is out of its range .. its first digit, whatever follows". */
    private static void whateverFollows() {
        String[] followers = {"", " ", ":", "/", "@", ";", "x", ":1/2", "/2", "@3", " 1", "\u0000", "\u00ff", ":::"};
        for (String follower : followers) {
            fault("5" + follower, 0);
            fault("0:301" + follower, 2);
            fault("0:1/301" + follower, 4);
            fault("0:1/2@61" + follower, 6);
            fault("0:1/2;5" + follower, 6);
            fault("0:1/2;0:301" + follower, 8);
        }
    }

    private static void theFirstOfSeveralFaults() {
        fault("5:301/301@61", 0);
        fault("0:301/301@61", 2);
        fault("0:300/301@61", 6);
        fault("0:300/300@61", 10);
        fault("0:300/300@60x", 12);
        fault("0:1/2;5:301/x", 6);
        fault("0:1/2@61;5:1/1", 6);
        fault("0:1/2x;5:1/1", 5);
        fault("x5", 0);
        fault("0 5:301/1", 2);
    }

    /** "Blanks (32) may stand anywhere except within numbers". */
    private static void blanksWhereTheyMayStand() {
        String[] parts = {"0", ":", "160", "/", "100", "@", "15", ";", "3", ":", "160", "/", "130"};
        TrapSurvey plain = Build.typed(Build.plant(), String.join("", parts));
        CHECK.due("readAll() without blanks", 2, plain.readAll());
        for (int at = 0; at <= parts.length; at++) {
            for (int blanks : new int[] {1, 2, 78}) {
                String text = withBlanks(parts, at, blanks);
                fault(text, Check.NONE);
                TrapSurvey x = Build.typed(Build.plant(), text);
                CHECK.due("readAll() of '" + text + "'", 2, x.readAll());
                CHECK.due("digest() after '" + text + "'", plain.digest(), x.digest());
            }
        }
        TrapSurvey all = Build.typed(Build.plant(), "  " + String.join("  ", parts) + "  ");
        CHECK.due("readAll() with blanks everywhere", 2, all.readAll());
        CHECK.due("digest() with blanks everywhere", plain.digest(), all.digest());
    }

    /** The parts as one text, with blanks before one of them, or behind the last one. */
    private static String withBlanks(String[] parts, int at, int blanks) {
        StringBuilder text = new StringBuilder();
        for (int i = 0; i < parts.length; i++) {
            text.append(i == at ? " ".repeat(blanks) : "").append(parts[i]);
        }
        return text.append(at == parts.length ? " ".repeat(blanks) : "").toString();
    }

    /** "(a blank ends a number)": a digit behind it is not allowed there. */
    private static void blanksWithinNumbers() {
        fault("0 0:1/2", 2);
        fault("0 04:1/2", 2);
        fault("00 4:1/2", 3);
        fault("0:1 60/2", 4);
        fault("0:16 0/2", 5);
        fault("0:1/1 00", 6);
        fault("0:1/10 0", 7);
        fault("0:1/2@1 5", 8);
        fault("0:1/2@   1   5", 13);
        fault("0:1/2;0 0:1/2", 8);
        fault("0:1/2;0:1/2 2", 12);
        // The number before the blank is checked by itself.
        fault("5 0:1/2", 0);
        fault("0:301 0/2", 2);
        fault("0:30 1/2", 5);
        fault("0:1/2@6 1", 8);
    }

    /** Tabs, line ends and the like are no blanks. */
    private static void otherWhiteSpace() {
        for (int code : new int[] {0, 9, 10, 11, 12, 13, 31, 33, 127, 133, 160}) {
            for (int at = 0; at <= FOUR_PARTS.length(); at++) {
                fault(FOUR_PARTS.substring(0, at) + (char) code + FOUR_PARTS.substring(at), at);
            }
        }
    }

    /** The shortest readings take 6 bytes with their sign: 16 of them fit into 100 bytes. */
    private static void asManyReadingsAsThereIsRoomFor() {
        for (int readings = 1; readings <= 16; readings++) {
            String text = "0:1/2;".repeat(readings - 1) + "4:1/2";
            fault(text, Check.NONE);
            fault(text + ";", 6 * readings);
            CHECK.due("readAll() of " + readings, readings, Build.typed(Build.plant(), text).readAll());
        }
        String most = "0:1/2;".repeat(15) + "3:7/8@60";
        fault(most, Check.NONE);
        CHECK.due("its length", 98, most.length());
        TrapSurvey x = Build.typed(Build.plant(), most);
        CHECK.due("readAll() of the longest list", 16, x.readAll());
        CHECK.due("trap(0, 5) after it", 5, x.trap(0, 5));
        CHECK.due("trap(3, 5) after it", 5, x.trap(3, 5));
        CHECK.due("trap(3, 6) after it", 0, x.trap(3, 6));
        fault("0:1/2;".repeat(16), 96);
        fault("0:1/2;".repeat(16) + "0:1/", 100);
        fault("0:1/2;".repeat(16) + "0:1;", 99);
    }

    /** The traps are those that there are when it is asked, not when it was typed. */
    private static void trapsOfThePresent() {
        TrapSurvey x = Build.typed(Build.oneLine(), "0:1/2;1:3/4");
        CHECK.due("textFault() without traps", 0, x.textFault());
        x.addTrap(0, 0, 1, 0, 0);
        CHECK.due("textFault() with a trap", 6, x.textFault());
        CHECK.due("readAll() with a trap", Check.BAD_STATE, x.readAll());
        x.addTrap(0, 0, 1, 0, 0);
        CHECK.due("textFault() with two traps", Check.NONE, x.textFault());
        CHECK.due("readAll() with two traps", 2, x.readAll());
        x.undo();
        CHECK.due("textFault() after an undo() of readAll()", Check.NONE, x.textFault());
        x.undo();
        CHECK.due("textFault() after an undo() of addTrap()", 6, x.textFault());
    }
}
