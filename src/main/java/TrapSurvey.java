import java.util.Arrays;

/**
 * A survey of steam traps: a plant of headers, lines and traps, the states that readings give to
 * the traps, the steam that they lose, the order of their repairs, and the rounds of the surveyor.
 */
public final class TrapSurvey {
    public static final int NONE = -1, BAD_INDEX = -2, BAD_VALUE = -3, BAD_STATE = -4, FULL = -5;

    private static final int HEADERS = 3;
    private static final int MAX_LINES = 8;
    private static final int MAX_TRAPS = 16;
    private static final int MAX_PRESSURE = 20;
    private static final int MAX_SIZE = 9;
    private static final int MAX_PLACE = 50;
    private static final int MAX_HOURS = 24;
    private static final int MAX_PRICE = 1000;
    private static final int MAX_INTERVAL = 400;
    private static final int MAX_DAYS_AT_ONCE = 100;
    private static final int MAX_DAY = 10000;
    private static final int MAX_BUDGET = 10000;
    private static final int MAX_TEMPERATURE = 300;
    private static final int MAX_CYCLES = 60;
    private static final int MAX_TEXT = 100;
    private static final int MAX_CODE = 255;
    private static final int HISTORY_STATES = 5;
    private static final long GRAMS_OF_PRICE = 1000000L;

    private static final int BUCKET = 0;
    private static final int THERMOSTATIC = 1;
    private static final int DISC = 2;

    private static final int UNKNOWN = 0;
    private static final int SOUND = 1;
    private static final int LEAKING = 2;
    private static final int BLOWN = 3;
    private static final int PLUGGED = 4;
    private static final int COLD = 5;

    private final Plant plant = new Plant();
    private final History history = new History();
    private final RepairOrder repairOrder = new RepairOrder();
    private final SurveyRound surveyRound = new SurveyRound();
    private final ReadingText text = new ReadingText();

    public TrapSurvey() {
    }

    // ---- plant

    public int setPressure(int header, int pressure) {
        if (!plant.hasHeader(header)) {
            return BAD_INDEX;
        }
        if (!isWithin(pressure, 1, MAX_PRESSURE)) {
            return BAD_VALUE;
        }
        history.keep(plant);
        int previous = plant.pressures[header];
        plant.pressures[header] = pressure;
        return previous;
    }

    public int addLine(int header) {
        if (!plant.hasHeader(header)) {
            return BAD_INDEX;
        }
        if (plant.lineCount >= MAX_LINES) {
            return FULL;
        }
        history.keep(plant);
        int line = plant.lineCount;
        plant.lineHeaders[line] = header;
        plant.lineCount++;
        return line;
    }

    public int addTrap(int line, int kind, int size, int x, int y) {
        if (!plant.hasLine(line)) {
            return BAD_INDEX;
        }
        if (!isWithin(kind, BUCKET, DISC) || !isWithin(size, 1, MAX_SIZE)
                || !isWithin(x, 0, MAX_PLACE) || !isWithin(y, 0, MAX_PLACE)) {
            return BAD_VALUE;
        }
        if (plant.trapCount >= MAX_TRAPS) {
            return FULL;
        }
        history.keep(plant);
        int trap = plant.trapCount;
        plant.traps[trap].install(line, kind, size, x, y);
        plant.trapCount++;
        return trap;
    }

    public int moveLine(int line, int header) {
        if (!plant.hasLine(line) || !plant.hasHeader(header)) {
            return BAD_INDEX;
        }
        history.keep(plant);
        int previous = plant.lineHeaders[line];
        plant.lineHeaders[line] = header;
        return previous;
    }

    public int setWork(int hours, int price, int interval) {
        if (!isWithin(hours, 1, MAX_HOURS) || !isWithin(price, 1, MAX_PRICE)
                || !isWithin(interval, 1, MAX_INTERVAL)) {
            return BAD_VALUE;
        }
        history.keep(plant);
        int previous = plant.hours;
        plant.hours = hours;
        plant.price = price;
        plant.interval = interval;
        return previous;
    }

    public int count(int what) {
        switch (what) {
            case 0: return plant.lineCount;
            case 1: return plant.trapCount;
            case 2: return plant.hours;
            case 3: return plant.price;
            case 4: return plant.interval;
            case 5: return plant.day;
            case 6: return plant.spent;
            case 7: return plant.repairs;
            default: return BAD_VALUE;
        }
    }

    public int trap(int trap, int what) {
        Trap found = plant.trapAt(trap);
        if (found == null) {
            return BAD_INDEX;
        }
        switch (what) {
            case 0: return found.line;
            case 1: return found.kind;
            case 2: return found.size;
            case 3: return found.x;
            case 4: return found.y;
            case 5: return found.state;
            case 6: return found.readDay;
            case 7: return plant.headerOfLine(found.line);
            default: return BAD_VALUE;
        }
    }

    public int headerOf(int line) {
        return plant.headerOfLine(line);
    }

    public int pressure(int header) {
        return plant.pressureOfHeader(header);
    }

    // ---- readings

    public int read(int trap, int inlet, int outlet, int cycles) {
        int state = judge(trap, inlet, outlet, cycles);
        if (state < 0) {
            return state;
        }
        history.keep(plant);
        plant.takeReading(trap, inlet, outlet, cycles);
        return state;
    }

    public int judge(int trap, int inlet, int outlet, int cycles) {
        Trap found = plant.trapAt(trap);
        if (found == null) {
            return BAD_INDEX;
        }
        if (!isWithin(inlet, 0, MAX_TEMPERATURE) || !isWithin(outlet, 0, MAX_TEMPERATURE)
                || !isWithin(cycles, 0, MAX_CYCLES)) {
            return BAD_VALUE;
        }
        return found.judged(inlet, outlet, cycles, plant.pressureAt(found));
    }

    public int pass(int days) {
        if (!isWithin(days, 1, MAX_DAYS_AT_ONCE)) {
            return BAD_VALUE;
        }
        if (plant.day + days > MAX_DAY) {
            return FULL;
        }
        history.keep(plant);
        plant.letPass(days);
        return plant.day;
    }

    public int inState(int state) {
        if (!isWithin(state, UNKNOWN, COLD)) {
            return BAD_VALUE;
        }
        return plant.trapsInState(state);
    }

    // ---- losses and repairs

    public int loss(int trap) {
        Trap found = plant.trapAt(trap);
        return found == null ? BAD_INDEX : plant.lossOf(found);
    }

    public int lineLoss(int line) {
        return plant.hasLine(line) ? plant.lossOfLine(line) : BAD_INDEX;
    }

    public int headerLoss(int header) {
        return plant.hasHeader(header) ? plant.lossOfHeader(header) : BAD_INDEX;
    }

    public long lost(int trap) {
        if (trap == -1) {
            return plant.lostByAll();
        }
        Trap found = plant.trapAt(trap);
        return found == null ? BAD_INDEX : found.lostSteam;
    }

    public long saves(int trap) {
        Trap found = plant.trapAt(trap);
        return found == null ? BAD_INDEX : plant.priceADay(plant.lossOf(found)) / GRAMS_OF_PRICE;
    }

    public int repairCost(int trap) {
        Trap found = plant.trapAt(trap);
        return found == null ? BAD_INDEX : found.costOfRepair();
    }

    public long payback(int trap) {
        Trap found = plant.trapAt(trap);
        return found == null ? BAD_INDEX : plant.paybackOf(found);
    }

    public int order(int rank) {
        if (rank < 0) {
            return BAD_VALUE;
        }
        repairOrder.rankTraps(plant);
        return repairOrder.trapAtRank(rank);
    }

    public int repair(int trap) {
        Trap found = plant.trapAt(trap);
        if (found == null) {
            return BAD_INDEX;
        }
        if (found.state == UNKNOWN || found.state == SOUND) {
            return BAD_STATE;
        }
        history.keep(plant);
        plant.mend(found);
        return found.costOfRepair();
    }

    public int repairAll(int budget) {
        if (!isWithin(budget, 0, MAX_BUDGET)) {
            return BAD_VALUE;
        }
        history.keep(plant);
        repairOrder.rankTraps(plant);
        int left = budget;
        int repaired = 0;
        for (int rank = 0; rank < MAX_TRAPS; rank++) {
            Trap next = plant.trapAt(repairOrder.trapAtRank(rank));
            if (next == null || next.costOfRepair() > left) {
                break;
            }
            left -= next.costOfRepair();
            plant.mend(next);
            repaired++;
        }
        return repaired;
    }

    // ---- rounds

    public int isDue(int trap) {
        Trap found = plant.trapAt(trap);
        if (found == null) {
            return BAD_INDEX;
        }
        return plant.needsVisit(found) ? 1 : 0;
    }

    public int round(int index) {
        if (index < 0) {
            return BAD_VALUE;
        }
        surveyRound.plan(plant);
        return surveyRound.stopAt(index);
    }

    public int roundLength() {
        surveyRound.plan(plant);
        return surveyRound.length;
    }

    public int dueOn(int trap) {
        Trap found = plant.trapAt(trap);
        if (found == null) {
            return BAD_INDEX;
        }
        return plant.needsVisit(found) ? plant.day : found.readDay + plant.interval;
    }

    public int undo() {
        return history.takeBack(plant) ? history.size : BAD_STATE;
    }

    // ---- text

    public int type(int code) {
        if (!isWithin(code, 0, MAX_CODE)) {
            return BAD_VALUE;
        }
        return text.append(code) ? text.length : FULL;
    }

    public int clearText() {
        int previous = text.length;
        text.length = 0;
        return previous;
    }

    public int textFault() {
        return text.faultFor(plant.trapCount);
    }

    public int readAll() {
        if (text.faultFor(plant.trapCount) != NONE) {
            return BAD_STATE;
        }
        history.keep(plant);
        for (int i = 0; i < text.readingCount; i++) {
            int[] reading = text.readings[i];
            plant.takeReading(reading[ReadingText.TRAP], reading[ReadingText.INLET],
                    reading[ReadingText.OUTLET], reading[ReadingText.CYCLES]);
        }
        return text.readingCount;
    }

    public long digest() {
        long hash = 17;
        for (int what = 0; what <= 7; what++) {
            hash = 31 * hash + count(what);
        }
        for (int header = 0; header < HEADERS; header++) {
            hash = 31 * hash + pressure(header);
        }
        for (int line = 0; line < plant.lineCount; line++) {
            hash = 31 * hash + headerOf(line);
        }
        for (int trap = 0; trap < plant.trapCount; trap++) {
            for (int what = 0; what <= 6; what++) {
                hash = 31 * hash + trap(trap, what);
            }
            hash = 31 * hash + lost(trap);
        }
        return hash;
    }

    private static boolean isWithin(int value, int least, int most) {
        return value >= least && value <= most;
    }

    /** A trap: how it was installed, and what its readings and the days have made of it. */
    private static final class Trap {
        private int line;
        private int kind;
        private int size;
        private int x;
        private int y;
        private int state = UNKNOWN;
        private int readDay = NONE;
        private long lostSteam = 0;

        /** Only a row that no trap has used: an undo makes the rows of later traps new again. */
        void install(int newLine, int newKind, int newSize, int newX, int newY) {
            line = newLine;
            kind = newKind;
            size = newSize;
            x = newX;
            y = newY;
        }

        void copyFrom(Trap other) {
            line = other.line;
            kind = other.kind;
            size = other.size;
            x = other.x;
            y = other.y;
            state = other.state;
            readDay = other.readDay;
            lostSteam = other.lostSteam;
        }

        int judged(int inlet, int outlet, int cycles, int pressure) {
            int saturation = 100 + 6 * pressure;
            if (inlet < saturation / 2) {
                return COLD;
            }
            if (cycles == 0 && outlet <= inlet - 40) {
                return PLUGGED;
            }
            switch (kind) {
                case BUCKET: return judgedAsBucket(cycles);
                case THERMOSTATIC: return judgedAsThermostatic(inlet, outlet);
                default: return judgedAsDisc(inlet, outlet, cycles);
            }
        }

        private static int judgedAsBucket(int cycles) {
            if (cycles >= 30) {
                return BLOWN;
            }
            return cycles >= 15 ? LEAKING : SOUND;
        }

        private static int judgedAsThermostatic(int inlet, int outlet) {
            if (outlet >= inlet - 5) {
                return BLOWN;
            }
            return outlet >= inlet - 15 ? LEAKING : SOUND;
        }

        private static int judgedAsDisc(int inlet, int outlet, int cycles) {
            if (cycles >= 40 || outlet >= inlet - 2) {
                return BLOWN;
            }
            return cycles >= 20 ? LEAKING : SOUND;
        }

        int lossUnder(int pressure) {
            int blownLoss = size * size * (pressure + 1) * 10;
            switch (state) {
                case LEAKING: return blownLoss / 4;
                case BLOWN: return blownLoss;
                default: return 0;
            }
        }

        int costOfRepair() {
            return kind == DISC ? 30 + 10 * size : 50 + 20 * size;
        }

        int wayFrom(int fromX, int fromY) {
            return Math.abs(x - fromX) + Math.abs(y - fromY);
        }
    }

    /** The whole state but the text: what the history keeps. */
    private static final class Plant {
        private final int[] pressures = new int[HEADERS];
        private final int[] lineHeaders = new int[MAX_LINES];
        private final Trap[] traps = new Trap[MAX_TRAPS];
        private int lineCount = 0;
        private int trapCount = 0;
        private int hours = 24;
        private int price = 20;
        private int interval = 90;
        private int day = 0;
        private int spent = 0;
        private int repairs = 0;

        Plant() {
            Arrays.fill(pressures, 10);
            for (int i = 0; i < traps.length; i++) {
                traps[i] = new Trap();
            }
        }

        void copyFrom(Plant other) {
            System.arraycopy(other.pressures, 0, pressures, 0, HEADERS);
            System.arraycopy(other.lineHeaders, 0, lineHeaders, 0, MAX_LINES);
            for (int i = 0; i < MAX_TRAPS; i++) {
                traps[i].copyFrom(other.traps[i]);
            }
            lineCount = other.lineCount;
            trapCount = other.trapCount;
            hours = other.hours;
            price = other.price;
            interval = other.interval;
            day = other.day;
            spent = other.spent;
            repairs = other.repairs;
        }

        boolean hasHeader(int header) {
            return header >= 0 && header < HEADERS;
        }

        boolean hasLine(int line) {
            return line >= 0 && line < lineCount;
        }

        /** The trap of a number, or null if there is no such trap. */
        Trap trapAt(int trap) {
            return trap >= 0 && trap < trapCount ? traps[trap] : null;
        }

        int headerOfLine(int line) {
            return hasLine(line) ? lineHeaders[line] : BAD_INDEX;
        }

        int pressureOfHeader(int header) {
            return hasHeader(header) ? pressures[header] : BAD_INDEX;
        }

        int pressureAt(Trap trap) {
            return pressureOfHeader(headerOfLine(trap.line));
        }

        void takeReading(int trap, int inlet, int outlet, int cycles) {
            Trap found = trapAt(trap);
            if (found != null) {
                found.state = found.judged(inlet, outlet, cycles, pressureAt(found));
                found.readDay = day;
            }
        }

        void letPass(int days) {
            for (int i = 0; i < trapCount; i++) {
                traps[i].lostSteam += (long) lossOf(traps[i]) * hours * days;
            }
            day += days;
        }

        int trapsInState(int state) {
            int number = 0;
            for (int i = 0; i < trapCount; i++) {
                if (traps[i].state == state) {
                    number++;
                }
            }
            return number;
        }

        int lossOf(Trap trap) {
            return trap.lossUnder(pressureAt(trap));
        }

        int lossOfLine(int line) {
            int sum = 0;
            for (int i = 0; i < trapCount; i++) {
                if (traps[i].line == line) {
                    sum += lossOf(traps[i]);
                }
            }
            return sum;
        }

        int lossOfHeader(int header) {
            int sum = 0;
            for (int i = 0; i < trapCount; i++) {
                if (headerOfLine(traps[i].line) == header) {
                    sum += lossOf(traps[i]);
                }
            }
            return sum;
        }

        long lostByAll() {
            long sum = 0;
            for (int i = 0; i < trapCount; i++) {
                sum += traps[i].lostSteam;
            }
            return sum;
        }

        /** The price of the steam that a loss costs in a day, in millionths. */
        long priceADay(int loss) {
            return (long) loss * hours * price;
        }

        long paybackOf(Trap trap) {
            long gain = priceADay(lossOf(trap));
            if (gain <= 0) {
                return NONE;
            }
            // Rounded up; a repair is never free, so that this is at least one day.
            return (GRAMS_OF_PRICE * trap.costOfRepair() + gain - 1) / gain;
        }

        void mend(Trap trap) {
            trap.state = SOUND;
            spent += trap.costOfRepair();
            repairs++;
        }

        boolean needsVisit(Trap trap) {
            return trap.readDay == NONE || trap.state != SOUND || day - trap.readDay >= interval;
        }
    }

    /** The latest states before recorded calls; the rows are made once and used again. */
    private static final class History {
        private final Plant[] states = new Plant[HISTORY_STATES];
        private int size = 0;

        History() {
            for (int i = 0; i < states.length; i++) {
                states[i] = new Plant();
            }
        }

        void keep(Plant now) {
            if (size >= HISTORY_STATES) {
                dropOldest();
            }
            states[size].copyFrom(now);
            size++;
        }

        private void dropOldest() {
            Plant oldest = states[0];
            for (int i = 1; i < HISTORY_STATES; i++) {
                states[i - 1] = states[i];
            }
            states[HISTORY_STATES - 1] = oldest;
            size = HISTORY_STATES - 1;
        }

        /** Tells whether there was a state to take back. */
        boolean takeBack(Plant now) {
            if (size <= 0) {
                return false;
            }
            size--;
            now.copyFrom(states[size]);
            return true;
        }
    }

    /** The traps with a loss, in the order in which they are worth a repair. */
    private static final class RepairOrder {
        private final int[] ranked = new int[MAX_TRAPS];
        private final int[] losses = new int[MAX_TRAPS];
        private final long[] paybacks = new long[MAX_TRAPS];
        private int size = 0;

        void rankTraps(Plant plant) {
            size = 0;
            for (int trap = 0; trap < plant.trapCount; trap++) {
                losses[trap] = plant.lossOf(plant.traps[trap]);
                paybacks[trap] = plant.paybackOf(plant.traps[trap]);
                if (losses[trap] > 0) {
                    insert(trap);
                }
            }
        }

        int trapAtRank(int rank) {
            return rank >= 0 && rank < size ? ranked[rank] : NONE;
        }

        /** Traps come in ascending numbers: a trap stays behind those that are its equals. */
        private void insert(int trap) {
            int place = size;
            while (place > 0 && isBetter(trap, ranked[place - 1])) {
                ranked[place] = ranked[place - 1];
                place--;
            }
            ranked[place] = trap;
            size++;
        }

        private boolean isBetter(int one, int other) {
            if (paybacks[one] != paybacks[other]) {
                return paybacks[one] < paybacks[other];
            }
            return losses[one] > losses[other];
        }
    }

    /** The way of the surveyor from the gate to the traps that are due and back. */
    private static final class SurveyRound {
        private static final int GATE_X = 0;
        private static final int GATE_Y = 0;

        private final int[] stops = new int[MAX_TRAPS];
        private final boolean[] waits = new boolean[MAX_TRAPS];
        private int size = 0;
        private int length = 0;

        void plan(Plant plant) {
            size = 0;
            length = 0;
            for (int trap = 0; trap < plant.trapCount; trap++) {
                waits[trap] = plant.needsVisit(plant.traps[trap]);
            }
            int x = GATE_X;
            int y = GATE_Y;
            for (int visits = 0; visits < plant.trapCount; visits++) {
                int next = nearestWaiting(plant, x, y);
                if (next == NONE) {
                    break;
                }
                Trap stop = plant.traps[next];
                length += stop.wayFrom(x, y);
                x = stop.x;
                y = stop.y;
                waits[next] = false;
                stops[visits] = next;
                size++;
            }
            length += Math.abs(x - GATE_X) + Math.abs(y - GATE_Y);
        }

        int stopAt(int index) {
            return index >= 0 && index < size ? stops[index] : NONE;
        }

        private int nearestWaiting(Plant plant, int x, int y) {
            int nearest = NONE;
            int shortest = 0;
            for (int trap = 0; trap < plant.trapCount; trap++) {
                int way = plant.traps[trap].wayFrom(x, y);
                if (waits[trap] && (nearest == NONE || way < shortest)) {
                    nearest = trap;
                    shortest = way;
                }
            }
            return nearest;
        }
    }

    /**
     * The text, and a scanner for it. Each scan step leaves the position at the first byte that
     * it does not allow, or at the length if the text ends too early: that is the fault.
     */
    private static final class ReadingText {
        private static final int TRAP = 0;
        private static final int INLET = 1;
        private static final int OUTLET = 2;
        private static final int CYCLES = 3;
        private static final int NUMBERS = 4;
        private static final int MAX_DIGITS = 3;
        // Each reading takes at least the five bytes of 0:1/1.
        private static final int MAX_READINGS = MAX_TEXT / 5;

        private final int[] codes = new int[MAX_TEXT];
        private final int[][] readings = new int[MAX_READINGS][NUMBERS];
        private int length = 0;
        private int readingCount = 0;
        private int position = 0;

        /** Tells whether there was room. */
        boolean append(int code) {
            if (length >= MAX_TEXT) {
                return false;
            }
            codes[length] = code;
            length++;
            return true;
        }

        int faultFor(int trapCount) {
            return scanList(trapCount) ? NONE : position;
        }

        private boolean scanList(int trapCount) {
            position = 0;
            readingCount = 0;
            boolean hasMore = true;
            while (hasMore && readingCount < MAX_READINGS) {
                if (!scanReading(readings[readingCount], trapCount)) {
                    return false;
                }
                readingCount++;
                hasMore = scanSign(';');
            }
            return position >= length;
        }

        private boolean scanReading(int[] reading, int trapCount) {
            reading[CYCLES] = 0;
            return scanNumber(reading, TRAP, trapCount - 1)
                    && scanSign(':')
                    && scanNumber(reading, INLET, MAX_TEMPERATURE)
                    && scanSign('/')
                    && scanNumber(reading, OUTLET, MAX_TEMPERATURE)
                    && (!scanSign('@') || scanNumber(reading, CYCLES, MAX_CYCLES));
        }

        private boolean scanSign(char sign) {
            skipBlanks();
            if (position < length && codes[position] == sign) {
                position++;
                return true;
            }
            return false;
        }

        private boolean scanNumber(int[] reading, int which, int most) {
            skipBlanks();
            int first = position;
            int value = 0;
            while (position < length && isDigit(codes[position])) {
                // The wrap-around of a long number does not matter: it has too many digits.
                value = 10 * value + codes[position] - '0';
                position++;
            }
            int digits = position - first;
            if (!isWithin(digits, 1, MAX_DIGITS) || value > most) {
                position = first;
                return false;
            }
            reading[which] = value;
            return true;
        }

        private void skipBlanks() {
            while (position < length && codes[position] == ' ') {
                position++;
            }
        }

        private static boolean isDigit(int code) {
            return isWithin(code, '0', '9');
        }
    }
}
