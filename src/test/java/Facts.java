import java.util.Map;
import java.util.TreeMap;

/** What a survey tells of itself, each number by its name, so that a test can say which ones change. */
final class Facts {
    private static final String[] COUNTS = {"lines", "traps", "hours", "price", "interval", "day", "spent", "repairs"};
    private static final String[] OF_TRAP = {"line", "kind", "size", "x", "y", "state", "read on", "header"};

    private Facts() {
    }

    static Map<String, Long> of(TrapSurvey survey) {
        Map<String, Long> all = new TreeMap<>();
        for (int what = 0; what < COUNTS.length; what++) {
            all.put(COUNTS[what], (long) survey.count(what));
        }
        for (int header = 0; header <= 2; header++) {
            all.put("pressure " + header, (long) survey.pressure(header));
        }
        for (int line = 0; line < survey.count(0); line++) {
            all.put("line " + line + " header", (long) survey.headerOf(line));
        }
        for (int trap = 0; trap < survey.count(1); trap++) {
            for (int what = 0; what < OF_TRAP.length; what++) {
                all.put("trap " + trap + " " + OF_TRAP[what], (long) survey.trap(trap, what));
            }
            all.put("trap " + trap + " lost", survey.lost(trap));
        }
        return all;
    }

    /** Changes told as a text, "name = number" each, with ", " between them. */
    static void change(Map<String, Long> facts, String changes) {
        for (String change : changes.split(", ")) {
            if (!change.isEmpty()) {
                String[] sides = change.split(" = ");
                facts.put(sides[0], Long.parseLong(sides[1]));
            }
        }
    }
}
