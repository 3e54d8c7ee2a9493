/** Counts the calls whose answer is not the one that is due, and tells them. */
final class Check {
    private static int wrong = 0;
    private static int asked = 0;

    private Check() {
    }

    static void due(String call, long got, long want) {
        asked++;
        if (got != want) {
            wrong++;
            System.out.println(call + " answered " + got + ", due is " + want);
        }
    }

    /** One answer after the other, for calls that are told by one number from 0 on. */
    static void dueAll(String call, long[] got, long... want) {
        due(call + " has so many", got.length, want.length);
        for (int i = 0; i < got.length && i < want.length; i++) {
            due(call + " at " + i, got[i], want[i]);
        }
    }

    static void end(String name) {
        System.out.println(name + ": " + asked + " answers, " + wrong + " not as due");
        if (wrong != 0) {
            System.exit(1);
        }
    }

    /** A new row of ints on a shelf. */
    static void ints(CarbonCopies x, int s, int... values) {
        due("row", x.row(s, 2, values.length), 1);
        for (int i = 0; i < values.length; i++) {
            due("set", x.set(s, i, values[i]), 1);
        }
    }

    /** A new row of bytes on a shelf that tells a text. */
    static void text(CarbonCopies x, int s, String letters) {
        due("row", x.row(s, 0, letters.length()), 1);
        for (int i = 0; i < letters.length(); i++) {
            due("set", x.set(s, i, letters.charAt(i)), 1);
        }
    }

    static void diesTimes(CarbonCopies x, int person, int times) {
        for (int i = 0; i < times; i++) {
            x.dies(person);
        }
    }

    static long[] strengths(CarbonCopies x, int person, int deed) {
        long[] all = new long[6];
        for (int copy = 0; copy < 6; copy++) {
            all[copy] = x.strength(person, copy, deed);
        }
        return all;
    }

    static long[] drifts(CarbonCopies x, int person) {
        long[] all = new long[6];
        for (int copy = 0; copy < 6; copy++) {
            all[copy] = x.drift(person, copy);
        }
        return all;
    }

    static long[] losses(CarbonCopies x, int person) {
        long[] all = new long[5];
        for (int sheet = 1; sheet <= 5; sheet++) {
            all[sheet - 1] = x.loss(person, sheet);
        }
        return all;
    }

    static long[] traced(CarbonCopies x) {
        long[] all = new long[x.status(6)];
        for (int i = 0; i < all.length; i++) {
            all[i] = x.trace(i);
        }
        return all;
    }

    /** How many refusals of -1 to -7 there were. */
    static long[] refusals(CarbonCopies x) {
        long[] all = new long[7];
        for (int i = 0; i < 7; i++) {
            all[i] = x.status(11 + i);
        }
        return all;
    }
}
