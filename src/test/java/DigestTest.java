/** Promise 34: digest. */
public final class DigestTest {
    private static final Check CHECK = new Check("DigestTest");

    public static void main(String[] args) {
        promise34NewObject();
        promise34Plant();
        promise34EveryNumberCounts();
        promise34WhatDoesNotCount();
        CHECK.end();
    }

    private static long hash(long... numbers) {
        long hash = 17;
        for (long number : numbers) {
            hash = 31 * hash + number;
        }
        return hash;
    }

    private static void promise34NewObject() {
        long want = hash(0, 0, 24, 20, 90, 0, 0, 0, 10, 10, 10);
        CHECK.answers(TrapSurvey::new, "digest() of a new object", want, TrapSurvey::digest);
        CHECK.due("digest() with a line", hash(1, 0, 24, 20, 90, 0, 0, 0, 10, 10, 10, 1), Build.oneLine().digest());
    }

    private static void promise34Plant() {
        TrapSurvey x = Build.plant();
        x.pass(3);
        x.repair(1);
        x.setWork(23, 22, 21);
        long want = hash(3, 5, 23, 22, 21, 3, 90, 1, 10, 7, 20, 0, 2, 0,
                0, 0, 3, 5, 0, 3, 0, 990 * 24 * 3,
                1, 1, 2, 5, 10, 1, 0, 210 * 24 * 3,
                2, 2, 9, 40, 41, 3, 0, 8910 * 24 * 3,
                1, 0, 1, 7, 8, 0, -1, 0,
                0, 2, 4, 50, 1, 1, 0, 0);
        CHECK.due("digest() of the plant", want, x.digest());
        TrapSurvey late = Build.oneTrap(Build.DISC, 9);
        late.setPressure(0, 20);
        late.read(0, 300, 300, 60);
        Build.onDay(late, 10000);
        CHECK.due("digest() with much lost steam", hash(1, 1, 24, 20, 90, 10000, 0, 0, 20, 10, 10, 0,
                0, 2, 9, 0, 0, 3, 0, 4082400000L), late.digest());
    }

    private static void promise34EveryNumberCounts() {
        TrapSurvey x = Build.plant();
        long before = x.digest();
        x.moveLine(2, 1);
        CHECK.due("digest() changes with a header", 1, x.digest() != before ? 1 : 0);
        x.undo();
        CHECK.due("digest() after undo()", before, x.digest());
    }

    private static void promise34WhatDoesNotCount() {
        TrapSurvey x = Build.plant();
        long before = x.digest();
        Build.typed(x, "0:1/1");
        CHECK.due("digest() with a text", before, x.digest());
        x.setPressure(0, 10);
        CHECK.due("digest() with another history", before, x.digest());
        CHECK.due("digest() again", before, x.digest());
    }
}
