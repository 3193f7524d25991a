import java.math.BigInteger;

/** Promise 34: digest. */
public final class DigestTest {
    private static final Check CHECK = new Check("DigestTest");

    public static void main(String[] args) {
        promise34NewObject();
        promise34Plant();
        promise34EveryNumberCounts();
        promise34WhatDoesNotCount();
        promise34JustNoOverflow();
        promise34FirstOverflow();
        promise34OverflowOfAFullPlant();
        promise34LostSteamBeyondAnInt();
        promise34OrderOfTheNumbers();
        CHECK.end();
    }

    /** The hash without overflow, of which the 64 lowest bits are what is due. */
    private static long hashOf(long... numbers) {
        BigInteger hash = BigInteger.valueOf(17);
        for (long number : numbers) {
            hash = hash.multiply(BigInteger.valueOf(31)).add(BigInteger.valueOf(number));
        }
        return hash.longValue();
    }

    private static void promise34NewObject() {
        long want = hashOf(0, 0, 24, 20, 90, 0, 0, 0, 10, 10, 10);
        CHECK.answers(TrapSurvey::new, "digest() of a new object", want, TrapSurvey::digest);
        CHECK.due("digest() with a line", hashOf(1, 0, 24, 20, 90, 0, 0, 0, 10, 10, 10, 1), Build.oneLine().digest());
    }

    private static void promise34Plant() {
        TrapSurvey x = Build.plant();
        x.pass(3);
        x.repair(1);
        x.setWork(23, 22, 21);
        long want = hashOf(3, 5, 23, 22, 21, 3, 90, 1, 10, 7, 20, 0, 2, 0,
                0, 0, 3, 5, 0, 3, 0, 990 * 24 * 3,
                1, 1, 2, 5, 10, 1, 0, 210 * 24 * 3,
                2, 2, 9, 40, 41, 3, 0, 8910 * 24 * 3,
                1, 0, 1, 7, 8, 0, -1, 0,
                0, 2, 4, 50, 1, 1, 0, 0);
        CHECK.due("digest() of the plant", want, x.digest());
        TrapSurvey late = Build.oneTrap(Build.DISC, 9);
        late.setPressure(0, 20);
        late.read(0, 300, 300, 60);
        Build.onDay(late, 10000);
        CHECK.due("digest() with much lost steam", hashOf(1, 1, 24, 20, 90, 10000, 0, 0, 20, 10, 10, 0,
                0, 2, 9, 0, 0, 3, 0, 4082400000L), late.digest());
    }

    private static void promise34EveryNumberCounts() {
        TrapSurvey x = Build.plant();
        long before = x.digest();
        x.moveLine(2, 1);
        CHECK.due("digest() changes with a header", 1, x.digest() != before ? 1 : 0);
        x.undo();
        CHECK.due("digest() after undo()", before, x.digest());
    }

    private static void promise34WhatDoesNotCount() {
        TrapSurvey x = Build.plant();
        long before = x.digest();
        Build.typed(x, "0:1/1");
        CHECK.due("digest() with a text", before, x.digest());
        x.setPressure(0, 10);
        CHECK.due("digest() with another history", before, x.digest());
        CHECK.due("digest() again", before, x.digest());
    }

    /** 11 numbers: 31 to the power of 11 times 17 is less than 2 to the power of 63. */
    private static void promise34JustNoOverflow() {
        CHECK.due("digest() of a new object", 431965206751404151L, new TrapSurvey().digest());
        TrapSurvey x = new TrapSurvey();
        x.setWork(24, 1000, 400);
        long want = hashOf(0, 0, 24, 1000, 400, 0, 0, 0, 10, 10, 10);
        CHECK.due("digest() with a price and an interval", want, x.digest());
    }

    /** 12 numbers: with the first line the hash is more than 2 to the power of 63, and so less than 0. */
    private static void promise34FirstOverflow() {
        for (int header = 0; header <= 2; header++) {
            TrapSurvey x = new TrapSurvey();
            x.addLine(header);
            CHECK.due("digest() with a line on the header " + header, -5030414187519618104L + header, x.digest());
        }
        TrapSurvey two = new TrapSurvey();
        two.addLine(1);
        two.addLine(2);
        CHECK.due("digest() with two lines", -7581224439643198502L, two.digest());
    }

    /** 8 + 3 + 8 + 16 * 8 numbers, after each of which the hash may overflow again. */
    private static void promise34OverflowOfAFullPlant() {
        TrapSurvey x = Build.fullOfLines();
        long[] numbers = new long[8 + 3 + 8 + 16 * 8];
        long[] first = {8, 16, 24, 20, 90, 2, 0, 0, 10, 10, 10, 0, 1, 2, 0, 1, 2, 0, 1};
        System.arraycopy(first, 0, numbers, 0, first.length);
        for (int trap = 0; trap < 16; trap++) {
            x.addTrap(trap % 8, trap % 3, 9, trap, 50 - trap);
            if (trap > 0) {
                Build.bringInto(x, trap, 3);
            }
            long lost = trap == 0 ? 0 : 8910 * 24 * 2;
            long[] ofTrap = {trap % 8, trap % 3, 9, trap, 50 - trap, trap == 0 ? 0 : 3, trap == 0 ? -1 : 0, lost};
            System.arraycopy(ofTrap, 0, numbers, first.length + 8 * trap, 8);
        }
        x.pass(2);
        CHECK.due("digest() of a full plant", hashOf(numbers), x.digest());
    }

    /** lost() is a long: what is more than an int holds counts wholly. */
    private static void promise34LostSteamBeyondAnInt() {
        TrapSurvey x = Build.oneTrap(Build.BUCKET, 9);
        x.setPressure(0, 20);
        x.read(0, 300, 300, 60);
        // 17010 * 24 * 5260 is 2147342400, and a day later it is more than 2147483647.
        Build.onDay(x, 5260);
        CHECK.due("lost(0) on day 5260", 2147342400L, x.lost(0));
        CHECK.due("digest() on day 5260", ofOneTrap(5260, 2147342400L), x.digest());
        x.pass(1);
        CHECK.due("lost(0) on day 5261", 2147750640L, x.lost(0));
        CHECK.due("digest() on day 5261", ofOneTrap(5261, 2147750640L), x.digest());
        Build.onDay(x, 10000);
        CHECK.due("digest() on day 10000", ofOneTrap(10000, 4082400000L), x.digest());
    }

    private static long ofOneTrap(int day, long lost) {
        return hashOf(1, 1, 24, 20, 90, day, 0, 0, 20, 10, 10, 0, 0, 0, 9, 0, 0, 3, 0, lost);
    }

    /** "in this order": all numbers differ, those of count() too. */
    private static void promise34OrderOfTheNumbers() {
        TrapSurvey x = new TrapSurvey();
        x.addLine(1);
        x.addLine(2);
        x.addLine(0);
        x.setPressure(0, 11);
        x.setPressure(1, 12);
        x.setPressure(2, 13);
        x.addTrap(2, 1, 7, 33, 44);
        x.pass(17);
        Build.bringInto(x, 0, 3);
        x.repair(0);
        x.read(0, 166, 155, 1);
        x.pass(3);
        x.setWork(21, 22, 23);
        CHECK.due("digest()", hashOf(3, 1, 21, 22, 23, 20, 190, 1, 11, 12, 13, 1, 2, 0, 2, 1, 7, 33, 44, 2, 17,
                49 * 12 * 10 / 4 * 24 * 3), x.digest());
    }
}
