import java.math.BigInteger;
import java.util.ArrayDeque;
import java.util.ArrayList;
import java.util.Comparator;
import java.util.Deque;
import java.util.List;
import java.util.regex.Matcher;
import java.util.regex.Pattern;

/**
 * The document once more, written for plainness with the Java library, so that random runs can be
 * compared with it. Arguments are taken to be those of a call of the face.
 */
final class Model {
    private static final Pattern TOKEN = Pattern.compile("[0-9]+|[^ ]", Pattern.DOTALL);

    private record Trap(int line, int kind, int size, int x, int y, int state, int read, long lost) {
        Trap with(int newState, int newRead, long newLost) {
            return new Trap(line, kind, size, x, y, newState, newRead, newLost);
        }

        int cost() {
            return kind == 2 ? 30 + 10 * size : 50 + 20 * size;
        }
    }

    private record State(List<Integer> pressures, List<Integer> lines, List<Trap> traps, int hours, int price,
            int interval, int day, int spent, int repairs) {
    }

    private record Reading(int trap, int inlet, int outlet, int cycles) {
    }

    private final List<Integer> pressures = new ArrayList<>(List.of(10, 10, 10));
    private final List<Integer> lines = new ArrayList<>();
    private final List<Trap> traps = new ArrayList<>();
    private final Deque<State> history = new ArrayDeque<>();
    private final StringBuilder text = new StringBuilder();
    private int hours = 24;
    private int price = 20;
    private int interval = 90;
    private int day = 0;
    private int spent = 0;
    private int repairs = 0;

    /** The answer to a call of the face, by the name of the method. */
    long answer(String method, int... a) {
        return switch (method) {
            case "setPressure" -> isNo(a[0], 3) ? -2 : isOut(a[1], 1, 20) ? -3 : setPressure(a[0], a[1]);
            case "addLine" -> isNo(a[0], 3) ? -2 : lines.size() == 8 ? -5 : addLine(a[0]);
            case "addTrap" -> addTrap(a[0], a[1], a[2], a[3], a[4]);
            case "moveLine" -> isNo(a[0], lines.size()) || isNo(a[1], 3) ? -2 : moveLine(a[0], a[1]);
            case "setWork" -> isOut(a[0], 1, 24) || isOut(a[1], 1, 1000) || isOut(a[2], 1, 400) ? -3
                    : setWork(a[0], a[1], a[2]);
            case "count" -> isNo(a[0], 8) ? -3
                    : List.of(lines.size(), traps.size(), hours, price, interval, day, spent, repairs).get(a[0]);
            case "trap" -> isNo(a[0], traps.size()) ? -2 : isNo(a[1], 8) ? -3 : property(traps.get(a[0]), a[1]);
            case "headerOf" -> isNo(a[0], lines.size()) ? -2 : lines.get(a[0]);
            case "pressure" -> isNo(a[0], 3) ? -2 : pressures.get(a[0]);
            case "read" -> read(new Reading(a[0], a[1], a[2], a[3]));
            case "judge" -> judge(new Reading(a[0], a[1], a[2], a[3]));
            case "pass" -> isOut(a[0], 1, 100) ? -3 : day + a[0] > 10000 ? -5 : pass(a[0]);
            case "inState" -> isNo(a[0], 6) ? -3 : traps.stream().filter(t -> t.state == a[0]).count();
            default -> answerOnLosses(method, a);
        };
    }

    private long answerOnLosses(String method, int... a) {
        boolean noTrap = a.length > 0 && isNo(a[0], traps.size());
        return switch (method) {
            case "loss" -> noTrap ? -2 : loss(traps.get(a[0]));
            case "lineLoss" -> isNo(a[0], lines.size()) ? -2
                    : traps.stream().filter(t -> t.line == a[0]).mapToInt(this::loss).sum();
            case "headerLoss" -> isNo(a[0], 3) ? -2
                    : traps.stream().filter(t -> lines.get(t.line) == a[0]).mapToInt(this::loss).sum();
            case "lost" -> a[0] == -1 ? traps.stream().mapToLong(Trap::lost).sum() : noTrap ? -2 : traps.get(a[0]).lost;
            case "saves" -> noTrap ? -2 : gain(traps.get(a[0])).longValue() / 1000000;
            case "repairCost" -> noTrap ? -2 : traps.get(a[0]).cost();
            case "payback" -> noTrap ? -2 : payback(traps.get(a[0]));
            case "order" -> a[0] < 0 ? -3 : a[0] < order().size() ? order().get(a[0]) : -1;
            case "repair" -> noTrap ? -2 : traps.get(a[0]).state <= 1 ? -4 : repair(a[0]);
            case "repairAll" -> isOut(a[0], 0, 10000) ? -3 : repairAll(a[0]);
            default -> answerOnRounds(method, a);
        };
    }

    private long answerOnRounds(String method, int... a) {
        boolean noTrap = a.length > 0 && isNo(a[0], traps.size());
        return switch (method) {
            case "isDue" -> noTrap ? -2 : isDue(traps.get(a[0]), day) ? 1 : 0;
            case "round" -> a[0] < 0 ? -3 : a[0] < round().size() ? round().get(a[0]) : -1;
            case "roundLength" -> roundLength();
            case "dueOn" -> noTrap ? -2 : dueOn(traps.get(a[0]));
            case "undo" -> history.isEmpty() ? -4 : undo();
            case "type" -> isOut(a[0], 0, 255) ? -3 : text.length() == 100 ? -5 : text.append((char) a[0]).length();
            case "clearText" -> clearText();
            case "textFault" -> parse(new ArrayList<>());
            case "readAll" -> parse(new ArrayList<>()) != -1 ? -4 : readAll();
            case "digest" -> digest();
            default -> throw new IllegalArgumentException(method);
        };
    }

    private static boolean isOut(int value, int least, int most) {
        return value < least || value > most;
    }

    private static boolean isNo(int index, int size) {
        return isOut(index, 0, size - 1);
    }

    private void keep() {
        history.addLast(new State(List.copyOf(pressures), List.copyOf(lines), List.copyOf(traps), hours, price,
                interval, day, spent, repairs));
        if (history.size() > 5) {
            history.removeFirst();
        }
    }

    private int undo() {
        State old = history.removeLast();
        pressures.clear();
        pressures.addAll(old.pressures);
        lines.clear();
        lines.addAll(old.lines);
        traps.clear();
        traps.addAll(old.traps);
        hours = old.hours;
        price = old.price;
        interval = old.interval;
        day = old.day;
        spent = old.spent;
        repairs = old.repairs;
        return history.size();
    }

    private int setPressure(int header, int pressure) {
        keep();
        return pressures.set(header, pressure);
    }

    private int addLine(int header) {
        keep();
        lines.add(header);
        return lines.size() - 1;
    }

    private int addTrap(int line, int kind, int size, int x, int y) {
        if (isNo(line, lines.size())) {
            return -2;
        }
        if (isNo(kind, 3) || isOut(size, 1, 9) || isOut(x, 0, 50) || isOut(y, 0, 50)) {
            return -3;
        }
        if (traps.size() == 16) {
            return -5;
        }
        keep();
        traps.add(new Trap(line, kind, size, x, y, 0, -1, 0));
        return traps.size() - 1;
    }

    private int moveLine(int line, int header) {
        keep();
        return lines.set(line, header);
    }

    private int setWork(int newHours, int newPrice, int newInterval) {
        keep();
        int previous = hours;
        hours = newHours;
        price = newPrice;
        interval = newInterval;
        return previous;
    }

    private int property(Trap t, int what) {
        return List.of(t.line, t.kind, t.size, t.x, t.y, t.state, t.read, lines.get(t.line)).get(what);
    }

    private int judge(Reading r) {
        if (isNo(r.trap, traps.size())) {
            return -2;
        }
        if (isOut(r.inlet, 0, 300) || isOut(r.outlet, 0, 300) || isOut(r.cycles, 0, 60)) {
            return -3;
        }
        Trap t = traps.get(r.trap);
        if (r.inlet < (100 + 6 * pressures.get(lines.get(t.line))) / 2) {
            return 5;
        }
        int fall = r.inlet - r.outlet;
        if (r.cycles == 0 && fall >= 40) {
            return 4;
        }
        return switch (t.kind) {
            case 0 -> r.cycles >= 30 ? 3 : r.cycles >= 15 ? 2 : 1;
            case 1 -> fall <= 5 ? 3 : fall <= 15 ? 2 : 1;
            default -> r.cycles >= 40 || fall <= 2 ? 3 : r.cycles >= 20 ? 2 : 1;
        };
    }

    private void take(Reading r) {
        Trap t = traps.get(r.trap);
        traps.set(r.trap, t.with(judge(r), day, t.lost));
    }

    private int read(Reading r) {
        int state = judge(r);
        if (state > 0) {
            keep();
            take(r);
        }
        return state;
    }

    private int pass(int days) {
        keep();
        for (int i = 0; i < days; i++) {
            traps.replaceAll(t -> t.with(t.state, t.read, t.lost + loss(t) * hours));
            day++;
        }
        return day;
    }

    private int loss(Trap t) {
        int q = t.size * t.size * (pressures.get(lines.get(t.line)) + 1) * 10;
        return t.state == 3 ? q : t.state == 2 ? q / 4 : 0;
    }

    private BigInteger gain(Trap t) {
        return BigInteger.valueOf(loss(t)).multiply(BigInteger.valueOf(hours)).multiply(BigInteger.valueOf(price));
    }

    private long payback(Trap t) {
        if (loss(t) == 0) {
            return -1;
        }
        BigInteger cost = BigInteger.valueOf(1000000).multiply(BigInteger.valueOf(t.cost()));
        long days = Math.max(1, cost.divide(gain(t)).longValue() - 2);
        while (gain(t).multiply(BigInteger.valueOf(days)).compareTo(cost) < 0) {
            days++;
        }
        return days;
    }

    private List<Integer> order() {
        List<Integer> all = new ArrayList<>();
        for (int i = 0; i < traps.size(); i++) {
            if (loss(traps.get(i)) > 0) {
                all.add(i);
            }
        }
        all.sort(Comparator.comparing((Integer i) -> payback(traps.get(i)))
                .thenComparing(i -> -loss(traps.get(i))).thenComparing(i -> i));
        return all;
    }

    private void mend(int trap) {
        Trap t = traps.get(trap);
        traps.set(trap, t.with(1, t.read, t.lost));
        spent += t.cost();
        repairs++;
    }

    private int repair(int trap) {
        keep();
        mend(trap);
        return traps.get(trap).cost();
    }

    private int repairAll(int budget) {
        keep();
        int sum = 0;
        int repaired = 0;
        for (int trap : order()) {
            sum += traps.get(trap).cost();
            if (sum > budget) {
                break;
            }
            mend(trap);
            repaired++;
        }
        return repaired;
    }

    private boolean isDue(Trap t, int onDay) {
        return t.read == -1 || t.state != 1 || onDay - t.read >= interval;
    }

    private int dueOn(Trap t) {
        int on = day;
        while (!isDue(t, on)) {
            on++;
        }
        return on;
    }

    private static int way(int x, int y, Trap t) {
        return Math.abs(t.x - x) + Math.abs(t.y - y);
    }

    private List<Integer> round() {
        List<Integer> left = new ArrayList<>();
        for (int i = 0; i < traps.size(); i++) {
            if (isDue(traps.get(i), day)) {
                left.add(i);
            }
        }
        List<Integer> visited = new ArrayList<>();
        int x = 0;
        int y = 0;
        while (!left.isEmpty()) {
            int fromX = x;
            int fromY = y;
            left.sort(Comparator.comparing((Integer i) -> way(fromX, fromY, traps.get(i))).thenComparing(i -> i));
            int next = left.remove(0);
            visited.add(next);
            x = traps.get(next).x;
            y = traps.get(next).y;
        }
        return visited;
    }

    private int roundLength() {
        int length = 0;
        int x = 0;
        int y = 0;
        for (int trap : round()) {
            length += way(x, y, traps.get(trap));
            x = traps.get(trap).x;
            y = traps.get(trap).y;
        }
        return length + x + y;
    }

    private int clearText() {
        int length = text.length();
        text.setLength(0);
        return length;
    }

    /** The fault of the text; adds its readings, as far as there is none. */
    private int parse(List<Reading> readings) {
        Matcher token = TOKEN.matcher(text);
        String places = "T:I/O";
        int[] numbers = new int[4];
        int place = 0;
        boolean mayEnd = false;
        while (token.find()) {
            String found = token.group();
            char due = place < places.length() ? places.charAt(place) : ' ';
            if (due == ' ' && found.equals("@") && places.length() == 5) {
                places = "T:I/O@C";
                mayEnd = false;
            } else if (due == ' ' && found.equals(";")) {
                readings.add(new Reading(numbers[0], numbers[1], numbers[2], numbers[3]));
                numbers = new int[4];
                places = "T:I/O";
                place = -1;
                mayEnd = false;
            } else if ("TIOC".indexOf(due) >= 0) {
                int most = due == 'T' ? traps.size() - 1 : due == 'C' ? 60 : 300;
                if (!found.matches("[0-9]{1,3}") || Integer.parseInt(found) > most) {
                    return token.start();
                }
                numbers["TIOC".indexOf(due)] = Integer.parseInt(found);
                mayEnd = due == 'O' || due == 'C';
            } else if (due == ' ' || found.charAt(0) != due) {
                return token.start();
            }
            place++;
        }
        if (!mayEnd) {
            return text.length();
        }
        readings.add(new Reading(numbers[0], numbers[1], numbers[2], numbers[3]));
        return -1;
    }

    private int readAll() {
        keep();
        List<Reading> readings = new ArrayList<>();
        parse(readings);
        readings.forEach(this::take);
        return readings.size();
    }

    private long digest() {
        List<Long> numbers = new ArrayList<>();
        for (int what = 0; what <= 7; what++) {
            numbers.add(answer("count", what));
        }
        pressures.forEach(pressure -> numbers.add((long) pressure));
        lines.forEach(header -> numbers.add((long) header));
        for (Trap t : traps) {
            for (int what = 0; what <= 6; what++) {
                numbers.add((long) property(t, what));
            }
            numbers.add(t.lost);
        }
        BigInteger hash = BigInteger.valueOf(17);
        for (long number : numbers) {
            hash = hash.multiply(BigInteger.valueOf(31)).add(BigInteger.valueOf(number));
        }
        return hash.longValue();
    }
}
