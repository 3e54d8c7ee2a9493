/** Promises 22 and 23, WHICH and ASK, at their edges. */
public final class FittingEdgeTest {
    private static final String MIN = "-2147483648";
    private static final String MAX = "2147483647";

    public static void main(String[] args) {
        offBy();
        told();
        many();
        found();
        farOff();
        whichRefused();
        iLooksLast();
        asked();
        askedNone();
        askedBest();
        nextRefused();
        Check.end("FittingEdgeTest");
    }

    private static void due(String why, long want, String[] land, String... more) {
        Run.due(why, want, Run.join(land, more));
    }

    /** One COPY left, with 50 of DEED 0. */
    private static void offBy() {
        String[] land = {"person(0, 0, 1)", "dies(0) x5", "press(0, 0, 50)"};
        due("off by 0", 1, land, "ints 0: 50", "which(0, 1, 0, -1)");
        due("off by 0 at most", 0, land, "ints 0: 51", "which(0, 1, 0, -1)");
        due("off by 0 at most", 0, land, "ints 0: 49", "which(0, 1, 0, -1)");
        due("off by 1, more", 1, land, "ints 0: 49", "which(0, 1, 1, -1)");
        due("off by 1, less", 1, land, "ints 0: 51", "which(0, 1, 1, -1)");
        due("off by 20, the greatest e", 1, land, "ints 0: 30", "which(0, 1, 20, -1)");
        due("off by 20, the greatest e", 1, land, "ints 0: 70", "which(0, 1, 20, -1)");
        due("off by 21", 0, land, "ints 0: 29", "which(0, 1, 20, -1)");
        due("off by 21", 0, land, "ints 0: 71", "which(0, 1, 20, -1)");
        due("told below 0", 1, land, "ints 0: 50, -20", "which(0, 2, 20, -1)");
        due("told below 0", 0, land, "ints 0: 50, -21", "which(0, 2, 20, -1)");
        due("told above 99", 1, land, "press(0, 1, 99)", "ints 0: 50, 119", "which(0, 2, 20, -1)");
        due("told above 99", 0, land, "press(0, 1, 99)", "ints 0: 50, 120", "which(0, 2, 20, -1)");
    }

    private static void told() {
        String[] land = {"person(0, 0, 1)", "dies(0) x5", "press(0, 0, 50)", "press(0, 7, 60)"};
        due("n 1, the least: by one DEED", 1, land, "ints 0: 50, 9", "which(0, 1, 0, -1)");
        due("n 2: by two", 0, land, "ints 0: 50, 9", "which(0, 2, 0, -1)");
        due("n 7: not by the last", 1, land, "ints 0: 50, 0, 0, 0, 0, 0, 0, 9", "which(0, 7, 0, -1)");
        due("n 8, the greatest: by the last too", 0, land, "ints 0: 50, 0, 0, 0, 0, 0, 0, 9", "which(0, 8, 0, -1)");
        due("n 8, the greatest", 1, land, "ints 0: 50, 0, 0, 0, 0, 0, 0, 60", "which(0, 8, 0, -1)");
        due("n 8 of more elements", 1, land, "ints 0: 50, 0, 0, 0, 0, 0, 0, 60, 1", "which(0, 8, 0, -1)");
        due("by the first too", 0, land, "ints 0: 9, 0, 0, 0, 0, 0, 0, 60", "which(0, 8, 0, -1)");
        due("by each", 0, land, "ints 0: 50, 0, 0, 5, 0, 0, 0, 60", "which(0, 8, 4, -1)");
    }

    private static void many() {
        String[] six = {"person(0, 0, 1) x6", "row(0, 0, 1)"};
        due("of all COPIES not dead of all PERSONS", 36, six, "which(0, 1, 0, -1)");
        due("the first of 36", 0, six, "which(0, 1, 0, 0)");
        due("the last of 36: 10 times the PERSON and the COPY", 55, six, "which(0, 1, 0, 35)");
        due("there are 36", -5, six, "which(0, 1, 0, 36)");
        due("not the dead", 35, six, "dies(5)", "which(0, 1, 0, -1)");
        due("not the dead", 51, six, "dies(5)", "which(0, 1, 0, 30)");
        due("not the dead", 10, six, "dies(0) x6", "which(0, 1, 0, 0)");
        due("one alone", 55, six, "dies(0) x6", "dies(1) x6", "dies(2) x6", "dies(3) x6", "dies(4) x6", "dies(5) x5",
            "which(0, 1, 0, 0)");
        due("all are dead", 0, new String[] {"person(0, 0, 1)", "dies(0) x6", "row(0, 0, 1)"}, "which(0, 1, 0, -1)");
        due("no PERSONS", 0, new String[] {"row(0, 0, 1)"}, "which(0, 1, 0, -1)");
        due("no PERSONS", -5, new String[] {"row(0, 0, 1)"}, "which(0, 1, 0, 0)");
        due("SHELF 7", 36, six, "row(7, 0, 1)", "which(7, 1, 0, -1)");
    }

    /** 30, 20, 10, 0 and 0, 0 of DEED 0; the second PERSON 20, 20, 20, 20, 20, 20. */
    private static void found() {
        String[] land = {"person(0, 0, 10)", "person(4, 0, 1)", "press(0, 0, 30)", "press(1, 0, 20)", "ints 0: 20"};
        due("how many FIT", 7, land, "which(0, 1, 0, -1)");
        due("the i-th, 0", 1, land, "which(0, 1, 0, 0)");
        due("the i-th, 1", 10, land, "which(0, 1, 0, 1)");
        due("the i-th, the last", 15, land, "which(0, 1, 0, 6)");
        due("no such i", -5, land, "which(0, 1, 0, 7)");
        due("no such i", -5, land, "which(0, 1, 0, -2)");
        due("no such i", -5, land, "which(0, 1, 0, " + MAX + ")");
        due("no such i", -5, land, "which(0, 1, 0, " + MIN + ")");
        due("no such i, of none", -5, land, "set(0, 0, 99)", "which(0, 1, 0, 0)");
        due("how many, of none", 0, land, "set(0, 0, 99)", "which(0, 1, 0, -1)");
    }

    private static void farOff() {
        String[] land = {"person(0, 0, 1)", "dies(0) x5", "press(0, 0, 50)"};
        due("the least int", 0, land, "ints 0: " + MIN, "which(0, 1, 20, -1)");
        due("the greatest int", 0, land, "ints 0: " + MAX, "which(0, 1, 20, -1)");
        due("near the least int", 0, land, "ints 0: -2147483600", "which(0, 1, 20, -1)");
        due("of longs the lowest 32 bits", 1, land, "row(0, 3, 1)", "set(0, 0, " + ((7L << 32) + 50) + ")",
            "which(0, 1, 0, -1)");
        due("of longs all lowest 32 bits", 0, land, "row(0, 3, 1)", "set(0, 0, " + ((1L << 31) + 50) + ")",
            "which(0, 1, 20, -1)");
        due("bytes", 1, land, "row(0, 0, 1)", "set(0, 0, 306)", "which(0, 1, 0, -1)");
        due("shorts", 0, land, "row(0, 1, 1)", "set(0, 0, 306)", "which(0, 1, 0, -1)");
    }

    private static void whichRefused() {
        Run.allRefused("no such SHELF", -1, "which(-1, 1, 0, -1)", "which(8, 1, 0, -1)", "which(" + MIN + ", 1, 0, 0)");
        Run.allRefused("a PERSON where a ROW is wanted", -2, "which(1, 1, 0, -1)", "which(7, 1, 0, 0)");
        Run.refused("NOTHING", -3, "which(2, 1, 0, -1)");
        Run.allRefused("n below 0", -4, "which(0, -1, 0, -1)", "which(4, " + MIN + ", 0, 0)");
        Run.allRefused("fewer elements", -5, "which(0, 4, 0, -1)", "which(0, 9, 0, -1)", "which(4, 161, 0, -1)",
            "which(4, " + MAX + ", 0, -1)");
        Run.allRefused("n not 1 to 8", -6, "which(0, 0, 0, -1)", "which(4, 9, 0, -1)", "which(4, 160, 0, -1)");
        Run.allRefused("e not 0 to 20", -6, "which(0, 1, -1, -1)", "which(0, 1, 21, -1)", "which(0, 3, " + MAX + ", -1)",
            "which(0, 3, " + MIN + ", -1)");
        Run.allRefused("no such i", -5, "which(4, 1, 20, -2)", "which(4, 1, 20, 36)");
        Run.refused("-1 before -4", -1, "which(8, -1, 0, -1)");
        Run.refused("-1 before -6", -1, "which(8, 0, 21, -1)");
        Run.refused("-2 before -4", -2, "which(1, -1, 0, -1)");
        Run.refused("-2 before -5", -2, "which(1, 200, 0, -1)");
        Run.refused("-2 before -6", -2, "which(1, 0, 21, -1)");
        Run.refused("-3 before -4", -3, "which(2, -1, 0, -1)");
        Run.refused("-3 before -5", -3, "which(2, 8, 0, 5)");
        Run.refused("-3 before -6", -3, "which(2, 0, 21, -1)");
        Run.refused("-4 before -6", -4, "which(0, -1, 21, -1)");
        Run.refused("-5 before -6, e", -5, "which(0, 4, 21, -1)");
        Run.refused("-5 before -6, n", -5, "which(0, 9, 0, -1)");
    }

    /** "-5 for a number that goes with another one is looked at only if that other one may be; else it is -6." */
    private static void iLooksLast() {
        Run.refused("no such i, but n may not be", -6, "which(0, 0, 0, 99)");
        Run.refused("no such i, but n may not be", -6, "which(4, 9, 0, -2)");
        Run.refused("no such i, but e may not be", -6, "which(0, 1, 21, 99)");
        Run.refused("no such i, but e may not be", -6, "which(0, 1, -1, -2)");
        Run.refused("no such i, and n is below 0", -4, "which(0, -1, 0, 99)");
    }

    /** Six COPIES with nothing of DEED 0 all FIT. */
    private static void asked() {
        due("DEED n, the first of those not told", 1, Run.having(0, 2, 2, 2, 0, 0, 0), "row(0, 0, 8)", "next(0, 1, 0)");
        due("DEED n, n 7: the last", 7, Run.having(0, 0, 0, 0, 0, 0, 0), "row(0, 0, 8)", "next(0, 7, 0)");
        due("the last DEED is best", 7, Run.having(0, 128, 128, 128, 0, 0, 0), "row(0, 0, 8)", "next(0, 1, 0)");
        due("of longs the lowest 32 bits", 5, Run.having(0, 32, 32, 32, 0, 0, 0), "row(0, 3, 1)",
            "set(0, 0, " + (7L << 32) + ")", "next(0, 1, 0)");
        due("of longs all lowest 32 bits", -1, Run.having(0, 32, 32, 32, 0, 0, 0), "row(0, 3, 1)",
            "set(0, 0, " + (1L << 31) + ")", "next(0, 1, 20)");
        due("not one of those told", 2, new String[] {"person(0, 0, 5)", "press(0, 1, 20)", "row(0, 0, 8)"},
            "next(0, 2, 20)");
        due("two FIT, the fewest: the first DEED", 1, Run.having(0, 0, 0, 0, 0, 0, 0), "dies(0) x4", "row(0, 0, 8)",
            "next(0, 1, 0)");
        due("two FIT: what parts them", 5, Run.having(0, 0, 0, 0, 0, 32, 0), "dies(0) x4", "row(0, 0, 8)",
            "next(0, 1, 0)");
    }

    private static void askedNone() {
        String[] land = Run.having(0, 0, 0, 0, 0, 0, 32);
        due("none is left to ask, n 8", -1, land, "row(0, 0, 8)", "next(0, 8, 20)");
        due("none is left to ask, n 8, all FIT", -1, Run.having(0, 0, 0, 0, 0, 0, 0), "row(0, 0, 8)", "next(0, 8, 0)");
        due("one FITS", -1, land, "dies(0) x5", "row(0, 0, 8)", "next(0, 1, 20)");
        due("none FITS", -1, land, "ints 0: 99", "next(0, 1, 0)");
        due("none is there", -1, land, "dies(0) x6", "row(0, 0, 8)", "next(0, 1, 20)");
        due("no PERSONS", -1, new String[] {"row(0, 0, 8)"}, "next(0, 1, 20)");
        due("NONE is no refusal", 0, land, "dies(0) x6", "row(0, 0, 8)", "next(0, 1, 20)", "status(16)");
    }

    private static void askedBest() {
        due("fewest in the worst case", 3, Run.having(0, 2, 12, 8, 8, 0, 0), "row(0, 0, 8)", "next(0, 1, 0)");
        due("of several the first", 2, Run.having(0, 12, 12, 12, 0, 0, 0), "row(0, 0, 8)", "next(0, 1, 0)");
        due("of several the first, the other way about", 2, Run.having(0, 8, 8, 4, 4, 0, 0), "row(0, 0, 8)",
            "next(0, 2, 0)");
        due("those who HAVE it may be the most", 2, Run.having(0, 6, 6, 6, 6, 2, 0), "row(0, 0, 8)", "next(0, 1, 0)");
        due("the first that FITS counts too", 5, Run.having(0, 32, 0, 0, 0, 0, 0), "row(0, 0, 8)", "next(0, 1, 0)");
        due("the last that FITS counts too", 5, Run.having(0, 0, 0, 0, 0, 0, 32), "row(0, 0, 8)", "next(0, 1, 0)");
        due("only of those that FIT", 6, Run.having(0, 33, 33, 33, 64, 64, 0), "row(0, 0, 8)", "next(0, 1, 0)");
        // Of 25, 15, 5 two have DEED 1, of 30, 20, 10 three have DEED 2, as LEAST is 10.
        String[] falling = {"person(0, 0, 10)", "press(0, 1, 25)", "press(0, 2, 30)", "row(0, 0, 8)"};
        due("LEAST at least", 2, falling, "next(0, 1, 0)");
        due("LEAST at least", 1, falling, "ask(11)", "next(0, 1, 0)");
    }

    private static void nextRefused() {
        Run.allRefused("no such SHELF", -11, "next(-1, 1, 0)", "next(8, 1, 0)", "next(" + MAX + ", 1, 0)");
        Run.allRefused("a PERSON where a ROW is wanted", -12, "next(1, 1, 0)", "next(7, 1, 0)");
        Run.refused("NOTHING", -13, "next(2, 1, 0)");
        Run.allRefused("n below 0", -14, "next(0, -1, 0)", "next(4, " + MIN + ", 0)");
        Run.allRefused("fewer elements", -15, "next(0, 4, 0)", "next(4, 161, 0)", "next(4, " + MAX + ", 0)");
        Run.allRefused("n not 1 to 8", -16, "next(0, 0, 0)", "next(4, 9, 0)", "next(4, 160, 0)");
        Run.allRefused("e not 0 to 20", -16, "next(0, 1, -1)", "next(0, 1, 21)", "next(0, 3, " + MIN + ")");
        Run.refused("-11 before -14", -11, "next(8, -1, 0)");
        Run.refused("-11 before -16", -11, "next(-1, 0, 21)");
        Run.refused("-12 before -14", -12, "next(1, -1, 0)");
        Run.refused("-12 before -16", -12, "next(1, 0, 21)");
        Run.refused("-13 before -14", -13, "next(2, -1, 0)");
        Run.refused("-13 before -16", -13, "next(2, 0, 21)");
        Run.refused("-14 before -16", -14, "next(0, -1, 21)");
        Run.refused("-15 before -16, e", -15, "next(0, 4, 21)");
        Run.refused("-15 before -16, n", -15, "next(0, 9, 0)");
    }
}
