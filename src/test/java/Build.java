/** Surveys that several tests begin with. */
final class Build {
    static final int BUCKET = 0;
    static final int THERMOSTATIC = 1;
    static final int DISC = 2;

    static final int SOUND = 1;
    static final int LEAKING = 2;
    static final int BLOWN = 3;
    static final int PLUGGED = 4;
    static final int COLD = 5;

    /** Readings that give the states 1 to 5 to a trap of any kind under the pressure 10. */
    private static final int[][] READINGS = {{160, 144, 1}, {160, 145, 20}, {160, 160, 60}, {160, 0, 0}, {0, 0, 0}};

    private Build() {
    }

    /** Reads a trap so that it gets a state, 1 to 5; returns what read() answers. */
    static int bringInto(TrapSurvey survey, int trap, int state) {
        int[] reading = READINGS[state - 1];
        return survey.read(trap, reading[0], reading[1], reading[2]);
    }

    /** One line, on the header 1. */
    static TrapSurvey oneLine() {
        TrapSurvey survey = new TrapSurvey();
        survey.addLine(1);
        return survey;
    }

    /** One line, on the header 0, with one trap of a kind and a size, at the gate. */
    static TrapSurvey oneTrap(int kind, int size) {
        TrapSurvey survey = new TrapSurvey();
        survey.addLine(0);
        survey.addTrap(0, kind, size, 0, 0);
        return survey;
    }

    /**
     * Lines 0 (header 0), 1 (header 2), 2 (header 0); traps: 0 bucket of size 3 on line 0, blown;
     * 1 thermostatic of size 2 on line 1, leaking; 2 disc of size 9 on line 2, blown; 3 bucket of
     * size 1 on line 1, without a reading; 4 disc of size 4 on line 0, sound. Pressures 10, 7, 20.
     */
    static TrapSurvey plant() {
        TrapSurvey survey = new TrapSurvey();
        survey.addLine(0);
        survey.addLine(2);
        survey.addLine(0);
        survey.addTrap(0, BUCKET, 3, 5, 0);
        survey.addTrap(1, THERMOSTATIC, 2, 5, 10);
        survey.addTrap(2, DISC, 9, 40, 41);
        survey.addTrap(1, BUCKET, 1, 7, 8);
        survey.addTrap(0, DISC, 4, 50, 1);
        survey.setPressure(1, 7);
        survey.setPressure(2, 20);
        survey.read(0, 160, 100, 30);
        survey.read(1, 200, 190, 5);
        survey.read(2, 160, 160, 7);
        survey.read(4, 160, 100, 19);
        return survey;
    }

    /** A line with as many traps as there is room for, at places of their own. */
    static TrapSurvey fullOfTraps() {
        TrapSurvey survey = oneLine();
        for (int trap = 0; trap < 16; trap++) {
            survey.addTrap(0, trap % 3, 1 + trap % 9, 3 * trap, 50 - 2 * trap);
        }
        return survey;
    }

    /** Lines by turns on the headers 0, 1 and 2. */
    static TrapSurvey lines(int number) {
        TrapSurvey survey = new TrapSurvey();
        for (int line = 0; line < number; line++) {
            survey.addLine(line % 3);
        }
        return survey;
    }

    static TrapSurvey fullOfLines() {
        return lines(8);
    }

    /** Traps by turns on the lines, of which there is at least one. */
    static TrapSurvey traps(int number, int lines) {
        TrapSurvey survey = lines(lines);
        for (int trap = 0; trap < number; trap++) {
            survey.addTrap(trap % lines, trap % 3, 1 + trap % 9, trap, trap);
        }
        return survey;
    }

    static TrapSurvey onDay(TrapSurvey survey, int day) {
        while (survey.count(5) < day) {
            survey.pass(Math.min(100, day - survey.count(5)));
        }
        return survey;
    }

    static TrapSurvey typed(TrapSurvey survey, String text) {
        for (int i = 0; i < text.length(); i++) {
            survey.type(text.charAt(i));
        }
        return survey;
    }
}
