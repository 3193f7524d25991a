import java.util.Arrays;
import java.util.Random;

/** Random runs of calls on a survey and on the model; the seeds are fixed, so that each run is the same. */
public final class ModelTest {
    private static final Check CHECK = new Check("ModelTest");
    private static final int RUNS = 600;
    private static final int CALLS = 512;
    private static final int[] EXTREMES = {Integer.MIN_VALUE, Integer.MIN_VALUE + 1, -1000, -2, -1, 0, 1, 3, 8, 9,
        16, 17, 20, 21, 24, 25, 50, 51, 60, 61, 100, 101, 255, 256, 300, 301, 400, 401, 1000, 1001, 10000, 10001,
        65536, Integer.MAX_VALUE - 1, Integer.MAX_VALUE};
    private static final String[] CHANGES = {"setPressure", "addLine", "addTrap", "addTrap", "addTrap", "moveLine",
        "setWork", "read", "read", "read", "read", "pass", "pass", "repair", "repair", "repairAll", "readAll",
        "undo"};
    private static final String[] QUESTIONS = {"count", "trap", "headerOf", "pressure", "judge", "inState", "loss",
        "lineLoss", "headerLoss", "lost", "saves", "repairCost", "payback", "order", "isDue", "round", "roundLength",
        "dueOn", "clearText", "textFault", "digest"};

    private final Random random;
    private final TrapSurvey survey = new TrapSurvey();
    private final Model model = new Model();
    private final StringBuilder typing = new StringBuilder();

    private ModelTest(int seed) {
        random = new Random(seed);
    }

    public static void main(String[] args) {
        for (int seed = 0; seed < RUNS; seed++) {
            new ModelTest(seed).run(seed);
        }
        CHECK.end();
    }

    private void run(int seed) {
        for (int call = 0; call + 1 < CALLS; call++) {
            String method = nextMethod();
            int[] arguments = method.equals("type") ? new int[] {nextCode()} : argumentsFor(method);
            long want = model.answer(method, arguments);
            String name = "run " + seed + ", call " + call + ", " + method + Arrays.toString(arguments);
            CHECK.due(name, want, answer(method, arguments));
            if (method.startsWith("add") || method.startsWith("re")) {
                call++;
                CHECK.due(name + ", then digest()", model.answer("digest"), survey.digest());
            }
        }
    }

    private String nextMethod() {
        if (typing.length() > 0) {
            return "type";
        }
        int dice = random.nextInt(100);
        if (dice < 4) {
            typing.append(someText());
            return "clearText";
        }
        if (dice < 6) {
            typing.append(someText());
        }
        return dice < 50 ? CHANGES[random.nextInt(CHANGES.length)] : QUESTIONS[random.nextInt(QUESTIONS.length)];
    }

    private int nextCode() {
        int code = typing.charAt(0);
        typing.deleteCharAt(0);
        return random.nextInt(100) == 0 ? pick(0, 255) : code;
    }

    private String someText() {
        StringBuilder text = new StringBuilder();
        int readings = 1 + random.nextInt(4);
        for (int i = 0; i < readings; i++) {
            text.append(i == 0 ? "" : ";").append(someNumber(random.nextInt(4) + 1)).append(':')
                    .append(someNumber(302)).append('/').append(someNumber(302));
            if (random.nextInt(2) == 0) {
                text.append('@').append(someNumber(62));
            }
        }
        for (int i = random.nextInt(6); i > 0; i--) {
            text.insert(random.nextInt(text.length() + 1), ' ');
        }
        if (random.nextInt(3) == 0) {
            text.insert(random.nextInt(text.length() + 1), "0123456789:/@; x".charAt(random.nextInt(16)));
        }
        if (random.nextInt(6) == 0) {
            text.setLength(random.nextInt(text.length()));
        }
        return text.toString();
    }

    private String someNumber(int below) {
        String number = String.valueOf(random.nextInt(below));
        return random.nextInt(4) == 0 ? "0" + number : number;
    }

    /** Mostly in the range, sometimes just beside it, seldom anything. */
    private int pick(int least, int most) {
        int dice = random.nextInt(200);
        if (dice == 0) {
            return EXTREMES[random.nextInt(EXTREMES.length)];
        }
        if (dice < 6) {
            return dice % 2 == 0 ? least - 1 : most + 1;
        }
        if (dice < 20) {
            return dice % 2 == 0 ? least : most;
        }
        return least + random.nextInt(Math.max(1, most - least + 1));
    }

    /** Asked of the model, so that the survey has no calls more. */
    private int traps() {
        return (int) model.answer("count", 1);
    }

    private int line() {
        return pick(0, (int) model.answer("count", 0) - 1);
    }

    private int trap() {
        return pick(0, traps() - 1);
    }

    private int[] argumentsFor(String method) {
        return switch (method) {
            case "setPressure" -> new int[] {pick(0, 2), pick(1, 20)};
            case "addLine", "pressure", "headerLoss" -> new int[] {pick(0, 2)};
            case "addTrap" -> new int[] {line(), pick(0, 2), pick(1, 9), pick(0, 50), pick(0, 50)};
            case "moveLine" -> new int[] {line(), pick(0, 2)};
            case "setWork" -> new int[] {pick(1, 24), pick(1, 1000), pick(1, 40)};
            case "count" -> new int[] {pick(0, 7)};
            case "trap" -> new int[] {trap(), pick(0, 7)};
            case "headerOf", "lineLoss" -> new int[] {line()};
            case "read", "judge" -> reading();
            case "pass" -> new int[] {random.nextInt(3) == 0 ? pick(1, 100) : pick(1, 20)};
            case "inState" -> new int[] {pick(0, 5)};
            case "lost" -> new int[] {pick(-1, traps() - 1)};
            case "order", "round" -> new int[] {random.nextInt(3) == 0 ? pick(0, 15) : pick(0, 4)};
            case "repairAll" -> new int[] {random.nextInt(3) == 0 ? pick(0, 10000) : pick(0, 600)};
            case "roundLength", "undo", "clearText", "textFault", "readAll", "digest" -> new int[0];
            default -> new int[] {trap()};
        };
    }

    private int[] reading() {
        int inlet = random.nextInt(6) == 0 ? pick(50, 120) : pick(120, 300);
        int outlet = random.nextInt(3) == 0 ? pick(0, 300) : pick(Math.max(0, inlet - 45), Math.min(300, inlet));
        return new int[] {trap(), inlet, outlet, random.nextInt(4) == 0 ? 0 : pick(0, 60)};
    }

    private long answer(String method, int... a) {
        return switch (method) {
            case "setPressure" -> survey.setPressure(a[0], a[1]);
            case "addLine" -> survey.addLine(a[0]);
            case "addTrap" -> survey.addTrap(a[0], a[1], a[2], a[3], a[4]);
            case "moveLine" -> survey.moveLine(a[0], a[1]);
            case "setWork" -> survey.setWork(a[0], a[1], a[2]);
            case "count" -> survey.count(a[0]);
            case "trap" -> survey.trap(a[0], a[1]);
            case "headerOf" -> survey.headerOf(a[0]);
            case "pressure" -> survey.pressure(a[0]);
            case "read" -> survey.read(a[0], a[1], a[2], a[3]);
            case "judge" -> survey.judge(a[0], a[1], a[2], a[3]);
            case "pass" -> survey.pass(a[0]);
            case "inState" -> survey.inState(a[0]);
            case "loss" -> survey.loss(a[0]);
            case "lineLoss" -> survey.lineLoss(a[0]);
            case "headerLoss" -> survey.headerLoss(a[0]);
            case "lost" -> survey.lost(a[0]);
            case "saves" -> survey.saves(a[0]);
            case "repairCost" -> survey.repairCost(a[0]);
            case "payback" -> survey.payback(a[0]);
            default -> answerOnRounds(method, a);
        };
    }

    private long answerOnRounds(String method, int... a) {
        return switch (method) {
            case "order" -> survey.order(a[0]);
            case "repair" -> survey.repair(a[0]);
            case "repairAll" -> survey.repairAll(a[0]);
            case "isDue" -> survey.isDue(a[0]);
            case "round" -> survey.round(a[0]);
            case "roundLength" -> survey.roundLength();
            case "dueOn" -> survey.dueOn(a[0]);
            case "undo" -> survey.undo();
            case "type" -> survey.type(a[0]);
            case "clearText" -> survey.clearText();
            case "textFault" -> survey.textFault();
            case "readAll" -> survey.readAll();
            case "digest" -> survey.digest();
            default -> throw new IllegalArgumentException(method);
        };
    }
}
