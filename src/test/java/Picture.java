/** All that can be asked of a survey without an argument out of range, but for its text, as one text. */
final class Picture {
    private Picture() {
    }

    static String of(TrapSurvey survey) {
        StringBuilder all = new StringBuilder("counts");
        for (int what = 0; what <= 7; what++) {
            all.append(' ').append(survey.count(what));
        }
        for (int header = 0; header <= 2; header++) {
            all.append(" / header ").append(survey.pressure(header));
        }
        for (int line = 0; line < survey.count(0); line++) {
            all.append(" / line ").append(survey.headerOf(line));
        }
        for (int trap = 0; trap < survey.count(1); trap++) {
            all.append(" / trap");
            for (int what = 0; what <= 7; what++) {
                all.append(' ').append(survey.trap(trap, what));
            }
            all.append(" lost ").append(survey.lost(trap));
        }
        return all.toString();
    }
}
