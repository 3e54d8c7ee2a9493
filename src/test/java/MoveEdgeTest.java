/** Promises 39 to 43, moves, THE TRACE, THE IMAGE and how many there are of all, at their edges. */
public final class MoveEdgeTest {
    private static final String MIN = "-2147483648";
    private static final String MAX = "2147483647";

    public static void main(String[] args) {
        bodies();
        wrapping();
        lastPerson();
        noMoves();
        traces();
        images();
        notOfTheImage();
        imageOfNobody();
        restoredShelves();
        restoredKinds();
        restoredAnew();
        statuses();
        refusalsCounted();
        Check.end("MoveEdgeTest");
    }

    private static void due(String why, long want, String[] land, String... more) {
        Run.due(why, want, Run.join(land, more));
    }

    /** Of the PERSON with number 1, a 3: what a move with 7 answers, and THE TRACE, which ends with NONE. */
    private static void body(int kind, int move, long want, int... trace) {
        String[] land = {"person(0, 0, 1)", "person(" + kind + ", 3, 1)", "act(1, " + move + ", 7)"};
        due("KIND " + kind, want, land);
        due("KIND " + kind, trace.length, land, "status(6)");
        for (int i = 0; i < trace.length; i++) {
            due("KIND " + kind + ", the order in which they began", trace[i], land, "trace(" + i + ")");
        }
        due("KIND " + kind + ", none such", -1, land, "trace(" + trace.length + ")");
    }

    private static void bodies() {
        body(0, 0, 8, 10);
        body(0, 1, 16, 11, 10);
        body(0, 2, 16 ^ 5, 12, 11, 10, 10);
        body(1, 0, 11, 20, 10);
        body(1, 1, 22, 11, 20, 10);
        body(1, 2, 22 ^ 8, 12, 11, 20, 10, 20, 10);
        body(2, 0, 8, 10);
        body(2, 1, 48, 30, 11, 10);
        body(2, 2, 48 ^ 5, 12, 30, 11, 10, 10);
        body(3, 0, 8, 10);
        body(3, 1, 54, 40, 30, 11, 10);
        body(3, 2, 54 ^ 5, 12, 40, 30, 11, 10, 10);
        body(4, 0, 7, 51, 10);
        body(4, 1, 14, 11, 51, 10);
        body(4, 2, -(14 ^ 4), 50, 12, 11, 51, 10, 51, 10);
        body(5, 0, 7, 51, 10);
        body(5, 1, 14, 11, 51, 10);
        body(5, 2, -(14 ^ 4) ^ 5, 60, 50, 12, 11, 51, 10, 51, 10);
        body(6, 0, 22, 70, 20, 10);
        body(6, 1, 32, 71, 11, 70, 20, 10);
        body(6, 2, 32 ^ 16, 12, 71, 11, 70, 20, 10, 70, 20, 10);
    }

    private static void wrapping() {
        String[] nine = {"person(0, 0, 1)", "person(0, 9, 1)", "person(6, 9, 1)", "person(2, 0, 1)", "person(4, 9, 1)"};
        due("x (wrapping): x + m", Integer.MIN_VALUE, nine, "act(1, 0, " + MAX + ")");
        due("x (wrapping): lives(x) * 2", 0, nine, "act(1, 1, " + MAX + ")");
        due("x (wrapping): x - k", (Integer.MIN_VALUE + 1) * 2 ^ Integer.MAX_VALUE - 7, nine, "act(1, 2, " + MIN + ")");
        due("x (wrapping): super.lives(x) * 2", (Integer.MAX_VALUE + 11) * 2, nine, "act(2, 0, " + MAX + ")");
        due("x (wrapping): x - k of goes", (Integer.MIN_VALUE + 2) * 4, nine, "act(2, 1, " + MIN + ")");
        due("x (wrapping): super.goes(x) * 3", (Integer.MAX_VALUE + 3) * 6, nine, "act(3, 1, " + MAX + ")");
        due("x (wrapping): super.lives(x) - m", Integer.MIN_VALUE, nine, "act(4, 0, " + MIN + ")");
        due("x (wrapping): -super.looks(x)", -(0 ^ Integer.MIN_VALUE - 9), nine, "act(4, 2, " + MIN + ")");
        due("nothing wraps", Integer.MIN_VALUE, nine, "act(0, 0, " + MIN + ")");
    }

    private static void lastPerson() {
        due("PERSON 5: m is 5", 12, new String[] {"person(0, 0, 1) x6"}, "act(5, 0, 7)");
        due("PERSON 0: m is 0", 7, new String[] {"person(0, 9, 1) x6"}, "act(0, 0, 7)");
        due("one who is all dead moves too", 7, new String[] {"person(0, 0, 1)", "dies(0) x6"}, "act(0, 0, 7)");
    }

    private static void noMoves() {
        String[] acted = {"person(0, 0, 1)", "act(0, 2, 5)"};
        String[] none = {"act(0, -1, 5)", "act(0, 3, 5)", "act(-1, 0, 5)", "act(1, 0, 5)", "act(6, 0, 5)",
            "act(" + MIN + ", 0, 5)", "act(0, " + MAX + ", 5)", "act(1, 3, 5)"};
        for (String call : none) {
            due("no such PERSON, move: 0", 0, acted, call);
            due("no such PERSON, move: no TRACE then", -1, acted, call, "trace(0)");
            due("no such PERSON, move: no bodies that ran", 0, acted, call, "status(6)");
            for (int code = 11; code <= 17; code++) {
                due("no such PERSON, move: nothing is refused", 0, acted, call, "status(" + code + ")");
            }
        }
        Run.due("no PERSONS", 0, "act(0, 0, 5)");
    }

    private static void traces() {
        Run.due("none yet", -1, "trace(0)");
        String[] acted = {"person(6, 0, 1)", "act(0, 2, 5)"};
        due("the first", 12, acted, "trace(0)");
        due("the last", 10, acted, "trace(8)");
        due("none such", -1, acted, "trace(9)");
        due("none such", -1, acted, "trace(-1)");
        due("none such: the first 20 are kept", -1, acted, "trace(20)");
        due("none such", -1, acted, "trace(" + MIN + ")");
        due("none such", -1, acted, "trace(" + MAX + ")");
        due("nothing is refused", 0, acted, "trace(-1)", "trace(9)", "status(15)");
        due("of the latest act()", 70, acted, "act(0, 0, 5)", "trace(0)");
        due("of the latest act() alone", -1, acted, "act(0, 0, 5)", "trace(3)");
        due("of the latest act(), not all together", 3, acted, "act(0, 0, 5)", "status(6)");
    }

    /** All that THE IMAGE is of is made another, and is as before. */
    private static void images() {
        String[] land = {"person(6, 1, 10)", "press(0, 0, 50)", "rub(0, 1, 0)", "dies(0)", "ask(20)", "seed(99)",
            "image()", "person(3, 2, 7)", "press(0, 0, 99)", "press(1, 7, 99)", "rub(0, 1, 1)", "dies(0)", "ask(3)",
            "seed(1)", "restore()"};
        due("how many PERSONS", 1, land);
        due("all is as THE IMAGE has it: PERSONS", 1, land, "status(0)");
        due("all is as THE IMAGE has it: PERSONS", -5, land, "personOf(1, 0)");
        due("all is as THE IMAGE has it: the KIND", 6, land, "personOf(0, 0)");
        due("all is as THE IMAGE has it: OUT", 1, land, "personOf(0, 3)");
        due("all is as THE IMAGE has it: LEAST", 20, land, "status(2)");
        due("all is as THE IMAGE has it: SEED", 99, land, "status(5)");
        due("all is as THE IMAGE has it: SMEARS", 1, land, "status(4)");
        int[] strengths = {50, 0, 40, 29, 19, 9};
        int[] drifts = {0, 1, 2, 4, 5, 6};
        for (int copy = 0; copy < 6; copy++) {
            due("all is as THE IMAGE has it: STRENGTH", strengths[copy], land, "strength(0, " + copy + ", 0)");
            due("all is as THE IMAGE has it: DRIFT", drifts[copy], land, "drift(0, " + copy + ")");
        }
        due("THE IMAGE stays", 1, land, "press(0, 0, 99)", "dies(0)", "restore()");
        due("THE IMAGE stays as it was", 50, land, "press(0, 0, 99)", "restore()", "strength(0, 0, 0)");
        due("THE IMAGE is taken anew", 2, land, "person(0, 0, 1)", "image()", "person(0, 0, 1)", "restore()");
        due("THE IMAGE is taken: how many PERSONS", 2, land, "person(0, 0, 1)", "image()");
        due("THE IMAGE is not changed with what is in truth", 50, land, "done(0, 0)", "press(0, 0, 99)", "years(50)",
            "restore()", "strength(0, 0, 0)");
        due("THE IMAGE of 6", 6, new String[] {"person(1, 0, 1) x6", "image()"});
        due("THE IMAGE of 6", 6, new String[] {"person(1, 0, 1) x6", "image()", "dies(5)"}, "restore()");
        due("THE IMAGE of 6", 0, new String[] {"person(1, 0, 1) x6", "image()", "dies(5)", "restore()"}, "personOf(5, 3)");
        Run.refusedOn(new String[] {"person(0, 0, 1)"}, "there is none", -6, "restore()");
    }

    private static void notOfTheImage() {
        String[] land = {"person(6, 0, 1)", "image()", "ints 0: 5", "text 7: least x", "land(7)", "dies(6)", "act(0, 0, 5)",
            "restore()"};
        due("not of it: a ROW", 5, land, "element(0, 0)");
        due("not of it: a ROW", 100, land, "holds(7)");
        due("not of it: REFUSALS", 1, land, "status(16)");
        due("not of it: REFUSALS", 1, land, "status(11)");
        due("not of it: the FAULT", 6, land, "fault()");
        due("not of it: THE TRACE", 70, land, "trace(0)");
        due("not of it: THE TRACE", 3, land, "status(6)");
    }

    private static void imageOfNobody() {
        Run.due("THE IMAGE of no PERSONS", 0, "image()");
        Run.due("THE IMAGE of no PERSONS is one", 0, "image()", "person(0, 0, 1)", "restore()");
        Run.due("no PERSONS then", 0, "image()", "person(0, 0, 1)", "restore()", "status(0)");
        Run.due("no PERSONS then", -5, "image()", "person(0, 0, 1)", "restore()", "years(1)");
        Run.due("numbers from 0 on again", 0, "image()", "person(0, 0, 1) x6", "restore()", "person(0, 0, 1)");
    }

    private static void restoredShelves() {
        for (int s = 0; s <= 7; s++) {
            String[] land = {"person(0, 0, 1)", "image()", "person(1, 0, 1)", "show(" + s + ", 1)", "restore()"};
            due("a PERSON who is not there: NOTHING", -1, land, "holds(" + s + ")");
            due("a PERSON who is not there: NOTHING", -3, land, "says(" + s + ", 0)");
            due("a new one of that number is not on it", -1, land, "person(0, 0, 1)", "holds(" + s + ")");
        }
        String[] land = {"person(0, 0, 7)", "show(0, 0)", "image()", "show(7, 0)", "show(0, -1)", "dies(0)"};
        due("those of these numbers", 0, land, "restore()", "holds(7)");
        due("those of these numbers, as THE IMAGE has them", 0, land, "restore()", "personOf(0, 3)");
        due("SHELVES are not of THE IMAGE", -1, land, "restore()", "holds(0)");
        String[] other = {"person(1, 0, 7)", "image()", "restore()", "show(3, 0)", "restore()"};
        due("those of these numbers", 1, new String[] {"person(1, 0, 7)", "dies(0)", "image()", "dies(0)", "show(3, 0)",
            "restore()"}, "says(3, 1)");
        due("SHELVES that hold NOTHING hold NOTHING", -1, other, "holds(0)");
        due("ROWS stay", 103, Run.join(other, "row(4, 3, 3)"), "restore()", "holds(4)");
        due("the last number", 5, new String[] {"person(0, 0, 1) x6", "image()", "show(0, 5)"}, "restore()", "holds(0)");
    }

    /** Who comes where one of another KIND was of the same number is of his own. */
    private static void restoredKinds() {
        for (int kind = 0; kind <= 6; kind++) {
            for (int next = 0; next <= 6; next++) {
                String[] land = {"image()", "person(" + kind + ", 3, 7)", "restore()", "person(" + next + ", 3, 7)"};
                String[] alone = {"person(" + next + ", 3, 7)"};
                due("KIND " + next + " where " + kind + " was", next, land, "personOf(0, 0)");
                due("KIND " + next + " where " + kind + " was", Run.of(alone).answer("loss", 0, 1), land, "loss(0, 1)");
                due("KIND " + next + " where " + kind + " was", Run.of(alone).answer("act", 0, 2, 5), land,
                    "act(0, 2, 5)");
            }
        }
    }

    /** Who comes where another was of the same number has nothing of him. */
    private static void restoredAnew() {
        String[] land = {"image()", "person(6, 9, 20)", "press(0, 0, 99)", "rub(0, 5, 3) x3", "dies(0) x2", "restore()",
            "person(6, 8, 2)"};
        due("anew: a", 8, land, "personOf(0, 1)");
        due("anew: THICK", 2, land, "personOf(0, 2)");
        due("anew: OUT", 0, land, "personOf(0, 3)");
        due("anew: STRENGTHS", 0, land, "status(3)");
        due("anew: SMEARS", 0, land, "status(4)");
        due("anew: DRIFTS", 63, land, "straight(0, 0)");
        String[] read = {"image()", "person(6, 9, 20)", "press(0, 0, 99)", "rub(0, 5, 3) x3", "dies(0) x2", "restore()",
            "text 0: person 6 8 2", "land(0)"};
        due("anew, read from a text: OUT", 0, read, "personOf(0, 3)");
        due("anew, read from a text: STRENGTHS", 0, read, "status(3)");
        due("anew, read from a text: SMEARS", 0, read, "status(4)");
        due("anew, read from a text: DRIFTS", 63, read, "straight(0, 0)");
        for (int kind = 0; kind <= 6; kind++) {
            String[] another = {"person(" + kind + ", 4, 6)", "press(0, 0, 60)", "image()", "restore()"};
            String[] same = {"person(" + kind + ", 4, 6)", "press(0, 0, 60)"};
            for (int sheet = 1; sheet <= 5; sheet++) {
                String loss = "loss(0, " + sheet + ")";
                due("the KIND is as THE IMAGE has it", Run.of(same).answer("loss", 0, sheet), another, loss);
            }
        }
    }

    private static void statuses() {
        int[] none = {-1, 7, 8, 9, 10, 18, 19, 100, Integer.MIN_VALUE, Integer.MAX_VALUE};
        for (int what : none) {
            Run.due("NONE for another what", -1, "person(0, 0, 1)", "status(" + what + ")");
        }
        Run.due("NONE is no refusal", 0, "status(7)", "status(10)", "status(18)", "status(15)");
        String[] all = {"person(4, 0, 1) x6", "dies(0) x6", "dies(5)", "press(5, 7, 50)", "press(1, 0, 1)", "rub(5, 5, 0)",
            "rub(1, 0, 7)", "act(5, 2, 0)"};
        int[] want = {6, 7, 10, 256, 2, 1, 7};
        for (int what = 0; what < 7; what++) {
            due("how many", want[what], all, "status(" + what + ")");
        }
        due("COPIES that are dead, all", 12, new String[] {"person(0, 0, 1) x2", "dies(0) x6", "dies(1) x6"}, "status(1)");
        due("all STRENGTHS, the dead too", 6, new String[] {"person(4, 0, 1)", "press(0, 0, 1)", "dies(0) x6"},
            "status(3)");
        due("all SMEARS, the dead too", 2, new String[] {"person(4, 0, 1)", "rub(0, 0, 1) x2", "dies(0) x6"}, "status(4)");
    }

    private static void refusalsCounted() {
        String[] calls = {"loss(0, 1)", "says(0, 0)", "set(1, 0, 0)", "row(0, 0, -1)", "personOf(0, 0)", "ask(0)",
            "row(0, 0, 161)"};
        for (int i = 0; i < calls.length; i++) {
            for (int times = 1; times <= 3; times++) {
                Run.due("REFUSALS -" + (i + 1), times, "row(0, 0, 0)", calls[i] + " x" + times, "status(" + (11 + i) + ")");
            }
            for (int j = 0; j < calls.length; j++) {
                if (i != j) {
                    Run.due("not REFUSALS -" + (j + 1), 0, "row(0, 0, 0)", calls[i], "status(" + (11 + j) + ")");
                }
            }
        }
        Run.due("counted as -1, answered by -11", 4, "force(0, 0, 0, 0)", "paired(0, 1, 0)", "straight(0, 0)",
            "judge(8, 0)", "status(11)");
        Run.due("counted as -3, answered by -13", 2, "next(0, 1, 0)", "judge(0, 0)", "status(13)");
        Run.due("counted as -5, answered by -10005", 2, "drift(0, 0)", "drift(-1, 6)", "status(15)");
    }
}
