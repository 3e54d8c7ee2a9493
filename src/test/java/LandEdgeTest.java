/** Promises 9 to 15 and what the Terms say of them, at their edges: persons, copies, strengths, drifts, losses. */
public final class LandEdgeTest {
    private static final String MIN = "-2147483648";
    private static final String MAX = "2147483647";

    public static void main(String[] args) {
        personTaken();
        personRefused();
        leastTaken();
        hasAtLeast();
        personTold();
        sumsTold();
        copyTold();
        strengths();
        driftTold();
        driftRefused();
        losses();
        lossRefused();
        Check.end("LandEdgeTest");
    }

    private static void personTaken() {
        for (int kind = 0; kind <= 6; kind++) {
            Run.due("KIND 0 to 6", 0, "person(" + kind + ", 0, 1)");
            Run.due("KIND 0 to 6", kind, "person(" + kind + ", 0, 1)", "personOf(0, 0)");
        }
        Run.due("a 0, the least", 0, "person(0, 0, 1)", "personOf(0, 1)");
        Run.due("a 9, the greatest", 9, "person(0, 9, 1)", "personOf(0, 1)");
        Run.due("THICK 1, the least", 1, "person(0, 0, 1)", "personOf(0, 2)");
        Run.due("THICK 20, the greatest", 20, "person(0, 0, 20)", "personOf(0, 2)");
        Run.due("numbers from 0 on", 0, "person(0, 0, 1)");
        Run.due("numbers from 0 on", 1, "person(0, 0, 1)", "person(0, 0, 1)");
        Run.due("6 at most", 5, "person(0, 0, 1) x5", "person(6, 9, 20)");
        Run.due("6 at most", 6, "person(0, 0, 1) x6", "status(0)");
        Run.due("6 at most", -7, "person(0, 0, 1) x6", "person(0, 0, 1)");
        Run.due("6 at most", 6, "person(0, 0, 1) x7", "status(0)");
    }

    private static void personRefused() {
        Run.allRefused("no such KIND", -1, "person(-1, 0, 1)", "person(7, 0, 1)", "person(" + MIN + ", 0, 1)",
            "person(" + MAX + ", 0, 1)");
        Run.allRefused("a not 0 to 9", -6, "person(0, -1, 1)", "person(0, 10, 1)", "person(6, " + MIN + ", 1)");
        Run.allRefused("THICK not 1 to 20", -6, "person(0, 0, 0)", "person(0, 0, 21)", "person(6, 0, -1)",
            "person(0, 0, " + MAX + ")");
        Run.refused("-1 before -6", -1, "person(7, 10, 1)");
        Run.refused("-1 before -6", -1, "person(-1, 0, 0)");
        String[] full = {"person(0, 0, 1) x3", "person(5, 7, 9) x3"};
        Run.refusedOn(full, "more than may be", -7, "person(0, 0, 1)");
        Run.refusedOn(full, "-1 before -7", -1, "person(7, 0, 1)");
        Run.refusedOn(full, "-6 before -7", -6, "person(0, 10, 1)");
        Run.refusedOn(full, "-6 before -7", -6, "person(0, 0, 21)");
    }

    private static void leastTaken() {
        Run.due("LEAST 1, the least", 1, "ask(1)", "status(2)");
        Run.due("LEAST 99, the greatest", 99, "ask(99)", "status(2)");
        Run.due("what it was", 10, "ask(1)");
        Run.due("what it was", 1, "ask(1)", "ask(99)");
        Run.due("what it was", 99, "ask(99)", "ask(99)");
        Run.allRefused("LEAST not 1 to 99", -6, "ask(0)", "ask(100)", "ask(-1)", "ask(" + MIN + ")", "ask(" + MAX + ")");
    }

    /** PERSON 0, THICK 10, with 50, 40, 30, 20, 10, 0 of a DEED on his COPIES. */
    private static void hasAtLeast() {
        String[] land = {"person(0, 0, 10)", "press(0, 1, 50)"};
        int[] least = {9, 10, 11, 50, 51};
        int[] having = {31, 31, 15, 1, 0};
        for (int i = 0; i < least.length; i++) {
            String ask = "ask(" + least[i] + ")";
            for (int copy = 0; copy < 6; copy++) {
                Run.due("a COPY HAS of which STRENGTH is LEAST at least, " + ask, (having[i] >> copy & 1) * 2,
                    land[0], land[1], ask, "copyOf(0, " + copy + ", 1)");
            }
            Run.due("HAVE, " + ask, having[i], land[0], land[1], ask, "have(0, 1)");
        }
        Run.due("STRENGTH 99 of LEAST 99", 1, "person(1, 0, 1)", "press(0, 0, 99)", "ask(99)", "copyOf(0, 0, 1)");
        Run.due("STRENGTH 98 of LEAST 99", 0, "person(1, 0, 1)", "press(0, 0, 98)", "ask(99)", "copyOf(0, 0, 1)");
        Run.due("STRENGTH 0 of LEAST 1", 0, "person(0, 0, 1)", "ask(1)", "copyOf(0, 0, 1)");
        Run.due("STRENGTH 1 of LEAST 1", 1, "person(0, 0, 1)", "press(0, 0, 1)", "ask(1)", "copyOf(0, 0, 1)");
        Run.due("DEED 0, the first bit", 1, "person(0, 0, 1)", "press(0, 0, 99)", "copyOf(0, 5, 1)");
        Run.due("DEED 7, the last bit", 128, "person(0, 0, 1)", "press(0, 7, 99)", "copyOf(0, 5, 1)");
    }

    private static void personTold() {
        String one = "person(5, 4, 3)";
        int[] first = {5, 4, 3, 0, 0, 0};
        for (int what = 0; what <= 5; what++) {
            Run.due("a new PERSON", first[what], one, "personOf(0, " + what + ")");
        }
        Run.due("OUT: 6: all are dead", 6, one, "dies(0) x6", "personOf(0, 3)");
        Run.due("OUT: 6, and no more", 6, one, "dies(0) x7", "personOf(0, 3)");
        Run.due("of the last PERSON", 6, "person(0, 0, 1) x5", "person(6, 0, 1)", "personOf(5, 0)");
        Run.allRefused("no such PERSON", -5, "personOf(-1, 0)", "personOf(2, 0)", "personOf(6, 0)",
            "personOf(" + MIN + ", 0)", "personOf(" + MAX + ", 0)");
        Run.allRefused("another what", -5, "personOf(0, -1)", "personOf(0, 6)", "personOf(1, " + MAX + ")");
        Run.refusedOn(new String[0], "no such PERSON, none at all", -5, "personOf(0, 0)");
    }

    private static void sumsTold() {
        String[] each = {"person(0, 0, 1)", "press(0, 0, 6)", "press(0, 3, 7)", "press(0, 7, 9)"};
        Run.due("READ: all STRENGTHS of the lowest", 1 + 2 + 4, each[0], each[1], each[2], each[3], "personOf(0, 4)");
        Run.due("READ of one whose others are dead", 7, each[0], each[1], each[2], each[3], "dies(0) x5",
            "personOf(0, 4)");
        Run.due("READ is of the lowest COPY, dead or not", 7, each[0], each[1], each[2], each[3], "dies(0) x6",
            "personOf(0, 4)");
        Run.due("READ at most", 8 * 99, "person(4, 0, 1)", "press(0, 0, 99)", "press(0, 1, 99)", "press(0, 2, 99)",
            "press(0, 3, 99)", "press(0, 4, 99)", "press(0, 5, 99)", "press(0, 6, 99)", "press(0, 7, 99)",
            "personOf(0, 4)");
        String[] rubs = {"person(0, 0, 1)", "rub(0, 0, 0) x2", "rub(0, 5, 7) x3", "rub(0, 3, 1)"};
        Run.due("RUBBED: all SMEARS", 6, rubs[0], rubs[1], rubs[2], rubs[3], "personOf(0, 5)");
        Run.due("RUBBED, dead or not", 6, rubs[0], rubs[1], rubs[2], rubs[3], "dies(0) x6", "personOf(0, 5)");
        Run.due("RUBBED of one", 0, "person(0, 0, 1) x2", rubs[1], "personOf(1, 5)");
        Run.due("RUBBED beyond 99 of one COPY", 100, "person(0, 0, 1)", "rub(0, 0, 0) x105", "rub(0, 5, 0)",
            "personOf(0, 5)");
    }

    private static void copyTold() {
        String one = "person(0, 0, 1)";
        Run.due("SMEARS, 0 at first", 0, one, "copyOf(0, 0, 0)");
        Run.due("SMEARS of COPY 5", 1, one, "rub(0, 5, 0)", "copyOf(0, 5, 0)");
        Run.due("SMEARS of that COPY alone", 0, one, "rub(0, 5, 0)", "copyOf(0, 4, 0)");
        Run.due("SMEARS 98", 98, one, "rub(0, 0, 0) x98", "copyOf(0, 0, 0)");
        Run.due("SMEARS 99", 99, one, "rub(0, 0, 0) x99", "copyOf(0, 0, 0)");
        Run.due("SMEARS, 99 at most", 99, one, "rub(0, 0, 0) x100", "copyOf(0, 0, 0)");
        Run.due("dead: none at first", 0, one, "copyOf(0, 0, 2)");
        Run.due("dead: those above OUT", 1, one, "dies(0)", "copyOf(0, 0, 2)");
        Run.due("dead: not who is OUT", 0, one, "dies(0)", "copyOf(0, 1, 2)");
        Run.due("dead: not the last", 0, one, "dies(0) x5", "copyOf(0, 5, 2)");
        Run.due("dead: all", 1, one, "dies(0) x6", "copyOf(0, 5, 2)");
        Run.due("HAS of a dead COPY", 1, one, "press(0, 0, 50)", "dies(0) x6", "copyOf(0, 0, 1)");
        Run.due("HAS all", 255, one, "press(0, 0, 50)", "press(0, 1, 50)", "press(0, 2, 50)", "press(0, 3, 50)",
            "press(0, 4, 50)", "press(0, 5, 50)", "press(0, 6, 50)", "press(0, 7, 50)", "copyOf(0, 5, 1)");
        Run.allRefused("no such PERSON", -5, "copyOf(-1, 0, 0)", "copyOf(2, 0, 0)", "copyOf(" + MAX + ", 0, 0)");
        Run.allRefused("no such COPY", -5, "copyOf(0, -1, 0)", "copyOf(0, 6, 0)", "copyOf(0, " + MIN + ", 0)");
        Run.allRefused("another what", -5, "copyOf(0, 0, -1)", "copyOf(0, 0, 3)", "copyOf(1, 5, " + MAX + ")");
    }

    private static void strengths() {
        String one = "person(4, 0, 1)";
        Run.due("STRENGTH, 0 at first", 0, one, "strength(0, 0, 0)");
        Run.due("STRENGTH, 0 at first", 0, one, "strength(0, 5, 7)");
        Run.due("STRENGTH, COPY 5, DEED 7", 44, one, "press(0, 7, 44)", "strength(0, 5, 7)");
        Run.due("STRENGTH of that DEED alone", 0, one, "press(0, 7, 44)", "strength(0, 5, 6)");
        Run.due("STRENGTH 98", 98, one, "press(0, 7, 49) x2", "strength(0, 5, 7)");
        Run.due("STRENGTH 99", 99, one, "press(0, 7, 33) x3", "strength(0, 5, 7)");
        Run.due("STRENGTH, 99 at most", 99, one, "press(0, 7, 50) x2", "strength(0, 5, 7)");
        Run.due("STRENGTH, 99 at most", 99, one, "press(0, 7, 99) x2", "strength(0, 5, 7)");
        Run.due("STRENGTH of a dead COPY stays", 44, one, "press(0, 7, 44)", "dies(0) x6", "strength(0, 0, 7)");
        Run.allRefused("no such PERSON", -5, "strength(-1, 0, 0)", "strength(2, 0, 0)", "strength(6, 0, 0)");
        Run.allRefused("no such COPY", -5, "strength(0, -1, 0)", "strength(0, 6, 0)", "strength(0, " + MAX + ", 0)");
        Run.allRefused("no such DEED", -5, "strength(0, 0, -1)", "strength(0, 0, 8)", "strength(0, 0, " + MIN + ")");
    }

    private static void driftTold() {
        for (int copy = 0; copy < 6; copy++) {
            String drift = "drift(0, " + copy + ")";
            Run.due("DRIFT, 0 at first", 0, "person(6, 9, 1)", drift);
            Run.due("DRIFT j sheets below grows by j", copy, "person(0, 9, 1)", "press(0, 0, 99)", drift);
            Run.due("CREASED, a 0", copy < 3 ? 0 : 1, "person(6, 0, 1)", "press(0, 0, 99)", drift);
            Run.due("CREASED, a 9", copy * 9 + (copy < 3 ? 0 : 1), "person(6, 9, 1)", "press(0, 0, 99)", drift);
            Run.due("TOP drifts as all", copy, "person(1, 9, 1)", "press(0, 0, 99)", drift);
            Run.due("DRIFT, if it got something", copy < 3 ? copy : 0, "person(0, 0, 10)", "press(0, 0, 30)", drift);
            Run.due("DRIFT, if it got 1", copy < 4 ? copy : 0, "person(0, 0, 10)", "press(0, 0, 31)", drift);
            Run.due("DRIFT where 99 at most gets no more", 2 * copy, "person(4, 0, 1)", "press(0, 0, 99) x2", drift);
            Run.due("DRIFT from the COPY that is OUT", copy < 2 ? 0 : copy - 2, "person(0, 0, 1)", "dies(0) x2",
                "press(0, 0, 99)", drift);
            Run.due("CREASED, the third sheet from OUT", copy < 2 ? 0 : 9 * (copy - 2) + (copy < 5 ? 0 : 1),
                "person(6, 9, 1)", "dies(0) x2", "press(0, 0, 99)", drift);
        }
        Run.due("DRIFT 990", 990, "person(6, 9, 1)", "press(0, 0, 9) x110", "drift(0, 1)");
        Run.due("DRIFT 999", 999, "person(6, 9, 1)", "press(0, 0, 9) x111", "drift(0, 1)");
        Run.due("DRIFT within 999", 999, "person(6, 9, 1)", "press(0, 0, 9) x112", "drift(0, 1)");
        Run.due("DRIFT 966", 966, "person(6, 9, 1)", "press(0, 0, 99) x21", "drift(0, 5)");
        Run.due("DRIFT within 999, by more than 1", 999, "person(6, 9, 1)", "press(0, 0, 99) x22", "drift(0, 5)");
        Run.due("DRIFT stays when one dies", 5, "person(0, 0, 1)", "press(0, 0, 99)", "dies(0) x6", "drift(0, 5)");
        Run.due("DRIFT stays when rubbed", 5, "person(0, 0, 1)", "press(0, 0, 99)", "rub(0, 5, 0)", "drift(0, 5)");
    }

    private static void driftRefused() {
        Run.allRefused("-10005, counted as -5: no such PERSON", -10005, "drift(-1, 0)", "drift(2, 0)",
            "drift(" + MIN + ", 0)", "drift(" + MAX + ", 0)");
        Run.allRefused("-10005, counted as -5: no such COPY", -10005, "drift(0, -1)", "drift(0, 6)",
            "drift(1, " + MIN + ")");
    }

    private static void lossesOf(String person, int... want) {
        for (int sheet = 1; sheet <= 5; sheet++) {
            Run.due("LOSS of " + person, want[sheet - 1], person, "loss(0, " + sheet + ")");
        }
    }

    private static void losses() {
        lossesOf("person(0, 9, 1)", 1, 1, 1, 1, 1);
        lossesOf("person(0, 9, 20)", 20, 20, 20, 20, 20);
        lossesOf("person(1, 9, 1)", 0, 1, 1, 1, 1);
        lossesOf("person(1, 9, 20)", 0, 20, 20, 20, 20);
        lossesOf("person(2, 9, 1)", 3, 3, 3, 3, 3);
        lossesOf("person(2, 9, 20)", 22, 22, 22, 22, 22);
        lossesOf("person(3, 9, 1)", 3, 3, 3, 3, 6);
        lossesOf("person(3, 9, 20)", 22, 22, 22, 22, 44);
        lossesOf("person(4, 9, 1)", 0, 0, 0, 0, 0);
        lossesOf("person(4, 9, 2)", 1, 1, 1, 1, 1);
        lossesOf("person(4, 9, 19)", 9, 9, 9, 9, 9);
        lossesOf("person(4, 9, 20)", 10, 10, 10, 10, 10);
        lossesOf("person(5, 0, 1)", 0, 0, 0, 0, 0);
        lossesOf("person(5, 1, 1)", 1, 1, 1, 1, 1);
        lossesOf("person(5, 8, 19)", 9, 9, 9, 9, 9);
        lossesOf("person(5, 9, 20)", 11, 11, 11, 11, 11);
        lossesOf("person(6, 0, 1)", 0, 1, 1, 1, 1);
        lossesOf("person(6, 9, 1)", 0, 1, 10, 1, 1);
        lossesOf("person(6, 9, 20)", 0, 20, 29, 20, 20);
        Run.due("sheets count from the COPY that is OUT", 0, "person(1, 0, 5)", "dies(0)", "loss(0, 1)");
        Run.due("sheets count from the COPY that is OUT", 5, "person(1, 0, 5)", "dies(0)", "loss(0, 2)");
        Run.due("LOSS of one who is all dead", 20, "person(3, 0, 8)", "dies(0) x6", "loss(0, 5)");
    }

    private static void lossRefused() {
        Run.allRefused("no such PERSON", -1, "loss(-1, 1)", "loss(2, 1)", "loss(6, 1)", "loss(" + MIN + ", 1)");
        Run.allRefused("a sheet not 1 to 5", -6, "loss(0, 0)", "loss(0, 6)", "loss(1, -1)", "loss(0, " + MAX + ")");
        Run.refused("-1 before -6", -1, "loss(2, 0)");
    }
}
