/** Promises 37 and 38, YEARS and the SEED, at their edges; the draws are made here once more. */
public final class YearEdgeTest {
    private static final int MIN = Integer.MIN_VALUE;
    private static final int MAX = Integer.MAX_VALUE;
    private static final int ANY = -1;
    /** HARD ones lose nothing between sheets, so that each COPY gets f. */
    private static final String[] SIX = {"person(4, 0, 1) x6"};

    public static void main(String[] args) {
        seeds();
        draws();
        upperBits();
        yearsTaken();
        pressesDrawn();
        rubsDrawn();
        dyingDrawn();
        drawsForTheDead();
        manyYears();
        yearsRefused();
        Check.end("YearEdgeTest");
    }

    private static void due(String why, long want, String[] land, String... more) {
        Run.due(why, want, Run.join(land, more));
    }

    private static int after(int seed) {
        return (int) (seed * 1103515245L + 12345L);
    }

    private static int after(int seed, int draws) {
        int s = seed;
        for (int i = 0; i < draws; i++) {
            s = after(s);
        }
        return s;
    }

    private static int drawn(int seed, int below) {
        return (int) ((after(seed) & 0xffffffffL) / 65536 % below);
    }

    /** A seed by which a year of that many PERSONS is drawn as wanted: the PERSON, what comes, on what. */
    private static int seedFor(int persons, int person, int what, int first, int second) {
        int below = what < 5 ? 8 : 6;
        for (int seed = 0; seed < 10000000; seed++) {
            boolean good = drawn(seed, persons) == person && drawn(after(seed), 8) == what;
            good = good && (first == ANY || drawn(after(seed, 2), below) == first);
            if (good && (second == ANY || drawn(after(seed, 3), what < 5 ? 60 : 8) == second)) {
                return seed;
            }
        }
        throw new IllegalStateException("no such seed");
    }

    private static String seeded(int seed) {
        return "seed(" + seed + ")";
    }

    private static void seeds() {
        Run.due("SEED, 1 at first", 1, "seed(0)");
        Run.due("what it was", MIN, seeded(MIN), seeded(0));
        Run.due("what it was", MAX, seeded(MAX), seeded(0));
        Run.due("it becomes v", MIN, seeded(MIN), "status(5)");
        Run.due("it becomes v", -1, seeded(-1), "status(5)");
        Run.due("it becomes v", 0, seeded(0), "status(5)");
        for (int code = 11; code <= 17; code++) {
            Run.due("nothing is refused", 0, seeded(MIN), seeded(-6), seeded(MAX), "status(" + code + ")");
        }
    }

    private static void draws() {
        String[] one = {"person(0, 0, 1)"};
        int[] some = {0, 1, -1, MIN, MAX, 12345, -12345};
        for (int seed : some) {
            int what = drawn(after(seed), 8);
            due("an int, wrapping, " + (what == 7 ? 2 : 4) + " draws", after(seed, what == 7 ? 2 : 4), one, seeded(seed),
                "years(1)", "status(5)");
        }
    }

    /** A SEED below 0 with upper bits that, taken with a sign, would tell another PERSON or nobody. */
    private static void upperBits() {
        for (int person = 0; person < 6; person++) {
            int seed = 0;
            while (after(seed) >= 0 || drawn(seed, 6) != person || drawn(after(seed), 8) != 7) {
                seed++;
            }
            due("its upper 16 bits, no sign", 1, SIX, seeded(seed), "years(1)", "personOf(" + person + ", 3)");
        }
        int last = 0;
        while (after(last) >>> 16 != 65535 || drawn(after(last), 8) != 7) {
            last++;
        }
        due("the greatest upper 16 bits", 1, SIX, seeded(last), "years(1)", "personOf(" + 65535 % 6 + ", 3)");
    }

    private static void yearsTaken() {
        String[] one = {"person(0, 0, 1)"};
        due("n 1, the least", 0, one, seeded(seedFor(1, 0, 5, ANY, ANY)), "years(1)");
        due("n 1: one year", after(seedFor(1, 0, 7, ANY, ANY), 2), one, seeded(seedFor(1, 0, 7, ANY, ANY)), "years(1)",
            "status(5)");
        int seed = 1;
        for (int i = 0; i < 100; i++) {
            seed = after(seed, drawn(after(seed), 8) == 7 ? 2 : 4);
        }
        due("n 100, the greatest: a hundred years", seed, one, "years(100)", "status(5)");
        due("n 100, the greatest: he is all dead", 6, one, "years(100)");
        due("years go on", seed, one, "years(1) x99", "years(1)", "status(5)");
        due("years go on", seed, one, "years(50) x2", "status(5)");
        due("how many are dead then, of all", 7, Run.join(SIX, "dies(0) x6"), seeded(seedFor(6, 5, 7, ANY, ANY)),
            "years(1)");
    }

    private static void pressesDrawn() {
        for (int what = 0; what < 5; what++) {
            String seed = seeded(seedFor(6, 2, what, 3, 9));
            due("below 5: a PRESS", 60, SIX, seed, "years(1)", "status(3)");
        }
        due("the first PERSON", 7, SIX, seeded(seedFor(6, 0, 4, 0, 6)), "years(1)", "strength(0, 5, 0)");
        due("the last PERSON", 7, SIX, seeded(seedFor(6, 5, 4, 0, 6)), "years(1)", "strength(5, 5, 0)");
        due("DEED 7", 7, SIX, seeded(seedFor(6, 5, 0, 7, 6)), "years(1)", "strength(5, 5, 7)");
        due("f 1 and 0", 1, SIX, seeded(seedFor(6, 3, 0, 2, 0)), "years(1)", "strength(3, 0, 2)");
        due("f 1 and 59", 60, SIX, seeded(seedFor(6, 3, 0, 2, 59)), "years(1)", "strength(3, 0, 2)");
        due("DRIFT too", 5, SIX, seeded(seedFor(6, 3, 0, 2, 59)), "years(1)", "drift(3, 5)");
        due("99 at most", 99, SIX, "press(3, 2, 99)", seeded(seedFor(6, 3, 0, 2, 59)), "years(1)", "strength(3, 0, 2)");
    }

    private static void rubsDrawn() {
        for (int what = 5; what < 7; what++) {
            due("5, 6: a RUB", 1, SIX, seeded(seedFor(6, 5, what, 5, 7)), "years(1)", "copyOf(5, 5, 0)");
            due("5, 6: a RUB", 0, SIX, "press(5, 7, 50)", seeded(seedFor(6, 5, what, 5, 7)), "years(1)",
                "strength(5, 5, 7)");
        }
        due("on COPY 0 of DEED 0", 0, SIX, "press(1, 0, 50)", seeded(seedFor(6, 1, 5, 0, 0)), "years(1)",
            "strength(1, 0, 0)");
        due("no other DEED", 50, SIX, "press(1, 1, 50)", seeded(seedFor(6, 1, 5, 0, 0)), "years(1)", "strength(1, 0, 1)");
        due("who is OUT isn't dead", 1, SIX, "dies(1) x4", seeded(seedFor(6, 1, 5, 4, 0)), "years(1)", "status(4)");
        due("if it isn't dead", 0, SIX, "dies(1) x4", seeded(seedFor(6, 1, 5, 3, 0)), "years(1)", "status(4)");
        due("if it isn't dead, but the DRAWS come", after(seedFor(6, 1, 5, 3, 0), 4), SIX, "dies(1) x4",
            seeded(seedFor(6, 1, 5, 3, 0)), "years(1)", "status(5)");
        due("99 at most", 99, SIX, "rub(1, 0, 0) x99", seeded(seedFor(6, 1, 6, 0, 0)), "years(1)", "copyOf(1, 0, 0)");
    }

    private static void dyingDrawn() {
        String seed = seeded(seedFor(6, 4, 7, ANY, ANY));
        due("7: DYING", 1, SIX, seed, "years(1)");
        due("7: DYING", 1, SIX, seed, "years(1)", "personOf(4, 3)");
        due("7: DYING of the last", 6, SIX, "dies(4) x5", seed, "years(1)");
        due("7: not of one who is all dead", 6, SIX, "dies(4) x6", seed, "years(1)");
        due("7: two DRAWS", after(seedFor(6, 4, 7, ANY, ANY), 2), SIX, seed, "years(1)", "status(5)");
    }

    private static void drawsForTheDead() {
        for (int what = 0; what < 8; what++) {
            int seed = seedFor(6, 3, what, ANY, ANY);
            String[] dead = Run.join(SIX, "dies(3) x6", seeded(seed), "years(1)");
            due("all dead, nothing of these: " + what, 0, dead, "status(3)");
            due("all dead, nothing of these: " + what, 0, dead, "status(4)");
            due("all dead, nothing of these: " + what, 6, dead, "status(1)");
            due("all dead, but the DRAWS come: " + what, after(seed, what == 7 ? 2 : 4), dead, "status(5)");
            due("all dead, nothing is refused: " + what, 0, dead, "status(16)");
        }
    }

    /** The same year by year, told by press(), rub() and dies(), which refuse what can't be. */
    private static void manyYears() {
        for (int persons = 1; persons <= 6; persons++) {
            String[] land = new String[persons];
            for (int p = 0; p < persons; p++) {
                land[p] = "person(" + (p + 1) + ", " + p + ", " + (p + 5) + ")";
            }
            int seed = 1000 * persons;
            Run told = Run.of(land);
            Run lived = Run.of(Run.join(land, seeded(seed), "years(60)"));
            for (int i = 0; i < 60; i++) {
                int person = drawn(seed, persons);
                int what = drawn(after(seed), 8);
                seed = after(seed, 2);
                if (what == 7) {
                    told.answer("dies", person);
                    continue;
                }
                int first = drawn(seed, what < 5 ? 8 : 6);
                int second = drawn(after(seed), what < 5 ? 60 : 8);
                seed = after(seed, 2);
                if (what < 5) {
                    told.answer("press", person, first, 1 + second);
                } else {
                    told.answer("rub", person, first, second);
                }
            }
            for (int what = 1; what < 5; what++) {
                Check.due("60 years, status(" + what + ")", lived.answer("status", what), told.answer("status", what));
            }
            Check.due("60 years, SEED", lived.answer("status", 5), seed);
            for (int p = 0; p < persons; p++) {
                for (int copy = 0; copy < 6; copy++) {
                    Check.due("60 years, drift", lived.answer("drift", p, copy), told.answer("drift", p, copy));
                    Check.due("60 years, has", lived.answer("copyOf", p, copy, 1), told.answer("copyOf", p, copy, 1));
                }
            }
        }
    }

    private static void yearsRefused() {
        Run.allRefused("n not 1 to 100", -6, "years(0)", "years(101)", "years(-1)", "years(" + MIN + ")",
            "years(" + MAX + ")");
        Run.refusedOn(new String[0], "no PERSONS", -5, "years(1)");
        Run.refusedOn(new String[0], "-5 before -6", -5, "years(0)");
        Run.refusedOn(new String[0], "-5 before -6", -5, "years(101)");
    }
}
