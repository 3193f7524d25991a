import java.util.function.Supplier;
import java.util.function.ToLongFunction;

/** Compares answers with those that are due, and counts the wrong ones. */
final class Check {
    static final int NONE = -1;
    static final int BAD_INDEX = -2;
    static final int BAD_VALUE = -3;
    static final int BAD_STATE = -4;
    static final int FULL = -5;

    /** More than the history can hold, so that undoing so often empties it. */
    private static final int MANY_UNDOS = 7;

    /** A call of a method with one of its arguments open. */
    interface OpenCall {
        long with(TrapSurvey survey, int value);
    }

    private final String test;
    private int wrong = 0;

    Check(String test) {
        this.test = test;
    }

    void due(String call, long want, long got) {
        if (want != got) {
            wrong++;
            System.out.println(test + ": " + call + " answered " + got + ", due is " + want);
        }
    }

    void same(String what, String want, String got) {
        if (!want.equals(got)) {
            wrong++;
            System.out.println(test + ": " + what + " is\n  " + got + ", due is\n  " + want);
        }
    }

    /** The call answers, and leaves state, text and history as they were. */
    void answers(Supplier<TrapSurvey> fresh, String call, long want, ToLongFunction<TrapSurvey> calling) {
        TrapSurvey called = fresh.get();
        due(call, want, calling.applyAsLong(called));
        TrapSurvey spared = fresh.get();
        same("the state after " + call, Picture.of(spared), Picture.of(called));
        for (int i = 0; i < MANY_UNDOS; i++) {
            due("undo() no. " + i + " after " + call, spared.undo(), called.undo());
            due("digest() after undo() no. " + i + " after " + call, spared.digest(), called.digest());
        }
        due("textFault() after " + call, spared.textFault(), called.textFault());
        due("clearText() after " + call, spared.clearText(), called.clearText());
    }

    /** Each of the values is refused by the call, which changes nothing. */
    void refuses(Supplier<TrapSurvey> fresh, String call, long refusal, OpenCall calling, int... values) {
        for (int value : values) {
            answers(fresh, call + " with " + value, refusal, survey -> calling.with(survey, value));
        }
    }

    /** The values next to a range, and the farthest ones. */
    static int[] beyond(int least, int most) {
        return new int[] {least - 1, most + 1, Integer.MIN_VALUE, Integer.MAX_VALUE};
    }

    /** The call answers, and one undo() brings back what was before it. */
    void records(Supplier<TrapSurvey> fresh, String call, long want, ToLongFunction<TrapSurvey> calling) {
        int before = historyOf(fresh.get());
        TrapSurvey called = fresh.get();
        due(call, want, calling.applyAsLong(called));
        due("undo() after " + call, Math.min(before + 1, 5) - 1, called.undo());
        same("the state after undo() of " + call, Picture.of(fresh.get()), Picture.of(called));
    }

    private static int historyOf(TrapSurvey survey) {
        int states = 0;
        while (survey.undo() >= 0 && states < MANY_UNDOS) {
            states++;
        }
        return states;
    }

    void end() {
        System.out.println(wrong == 0 ? test + ": all answers are as due" : test + ": " + wrong + " wrong");
        if (wrong != 0) {
            System.exit(1);
        }
    }
}
