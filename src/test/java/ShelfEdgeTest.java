/** Promises 1 to 8 at their edges: each check bears the words of the document that it is for. */
public final class ShelfEdgeTest {
    private static final String MIN = "-2147483648";
    private static final String MAX = "2147483647";

    public static void main(String[] args) {
        newObject();
        rowTaken();
        rowRefused();
        setTaken();
        lowestBits();
        setRefused();
        copyTaken();
        copyRefused();
        elements();
        shows();
        holdings();
        sayings();
        sayingsRefused();
        Check.end("ShelfEdgeTest");
    }

    private static void newObject() {
        Run.due("No PERSONS", 0, "status(0)");
        Run.due("No PERSONS", -5, "personOf(0, 0)");
        Run.due("No PERSONS, none dead", 0, "status(1)");
        Run.due("LEAST, 10 at first", 10, "status(2)");
        Run.due("LEAST, 10 at first", 10, "ask(5)");
        Run.due("no STRENGTHS at first", 0, "status(3)");
        Run.due("no SMEARS at first", 0, "status(4)");
        Run.due("SEED, 1 at first", 1, "status(5)");
        Run.due("SEED, 1 at first", 1, "seed(5)");
        Run.due("no act() yet", 0, "status(6)");
        Run.due("no act() yet", -1, "trace(0)");
        Run.due("FAULT: none yet", -1, "fault()");
        Run.due("no IMAGE", -6, "restore()");
        for (int what = 11; what <= 17; what++) {
            Run.due("no REFUSALS", 0, "status(" + what + ")");
        }
        for (int s = 0; s <= 7; s++) {
            Run.due("SHELVES hold NOTHING at first", -1, "holds(" + s + ")");
            Run.due("SHELVES hold NOTHING at first", -3, "set(" + s + ", 0, 1)");
        }
        Run.due("NONE", -1, "seed(" + CarbonCopies.NONE + ")", "status(5)");
    }

    private static void rowTaken() {
        Run.due("SHELF 0, the least", 1, "row(0, 0, 1)");
        Run.due("SHELF 7, the greatest", 1, "row(7, 0, 1)");
        for (int sort = 0; sort <= 3; sort++) {
            Run.due("a SORT (0 to 3)", 1, "row(2, " + sort + ", 4)");
            Run.due("a SORT (0 to 3)", 100 + sort, "row(2, " + sort + ", 4)", "holds(2)");
        }
        Run.due("0 elements", 1, "row(0, 0, 0)");
        Run.due("0 elements, yet a ROW", 100, "row(0, 0, 0)", "holds(0)");
        Run.due("0 elements: none is there", -5, "row(0, 0, 0)", "set(0, 0, 1)");
        Run.due("1 element", 1, "row(0, 0, 1)", "set(0, 0, 1)");
        Run.due("160 elements", 1, "row(0, 3, 160)");
        Run.due("160 elements", 1, "row(0, 3, 160)", "set(0, 159, 9)");
        Run.due("160 elements", 9, "row(0, 3, 160)", "set(0, 159, 9)", "element(0, 159)");
        Run.due("0 at first", 0, "row(0, 3, 160)", "element(0, 0)");
        Run.due("0 at first", 0, "row(0, 3, 160)", "element(0, 159)");
        Run.due("a new ROW, 0 at first", 0, "row(0, 3, 160)", "set(0, 159, 9)", "row(0, 3, 160)", "element(0, 159)");
        Run.due("a new ROW, 0 at first", 0, "row(0, 3, 1)", "set(0, 0, 9)", "row(0, 0, 1)", "element(0, 0)");
        Run.due("a new ROW, 0 at first", 0, "row(0, 2, 9)", "set(0, 8, 9)", "row(0, 2, 3)", "row(0, 2, 9)",
            "element(0, 8)");
        Run.due("of a new ROW the new size", -5, "row(0, 2, 9)", "row(0, 2, 3)", "set(0, 3, 1)");
        Run.due("of a new ROW the new SORT", 101, "row(0, 2, 9)", "row(0, 1, 3)", "holds(0)");
        Run.due("a ROW where a PERSON was", 103, "person(0, 0, 1)", "show(1, 0)", "row(1, 3, 0)", "holds(1)");
        Run.due("other SHELVES stay", 7, "ints 1: 7", "row(0, 2, 1)", "row(2, 2, 1)", "element(1, 0)");
    }

    private static void rowRefused() {
        Run.allRefused("no such SHELF", -1, "row(-1, 0, 0)", "row(8, 0, 0)", "row(" + MIN + ", 0, 0)",
            "row(" + MAX + ", 0, 0)");
        Run.allRefused("a size below 0", -4, "row(0, 0, -1)", "row(4, 0, " + MIN + ")");
        Run.allRefused("SORT", -6, "row(0, -1, 0)", "row(0, 4, 0)", "row(1, " + MAX + ", 3)", "row(2, " + MIN + ", 1)");
        Run.allRefused("n above 160", -7, "row(0, 0, 161)", "row(1, 3, " + MAX + ")");
        Run.refused("-1 before -4", -1, "row(8, 0, -1)");
        Run.refused("-1 before -6", -1, "row(-1, 4, 0)");
        Run.refused("-1 before -7", -1, "row(8, 0, 161)");
        Run.refused("-4 before -6", -4, "row(0, 4, -1)");
        Run.refused("-6 before -7", -6, "row(0, -1, 161)");
    }

    private static void setTaken() {
        Run.due("element 0, the least", 1, "row(0, 0, 3)", "set(0, 0, 1)");
        Run.due("element n less 1, the greatest", 1, "row(0, 0, 3)", "set(0, 2, 1)");
        Run.due("it becomes v", 5, "row(7, 0, 3)", "set(7, 2, 5)", "element(7, 2)");
        Run.due("only it", 0, "row(7, 0, 3)", "set(7, 1, 5)", "element(7, 0)");
        Run.due("only it", 0, "row(7, 0, 3)", "set(7, 1, 5)", "element(7, 2)");
    }

    private static void kept(int sort, long v, long want) {
        Run.due("what is put in keeps its lowest bits, SORT " + sort + ", " + v, want, "row(0, " + sort + ", 1)",
            "set(0, 0, " + v + ")", "element(0, 0)");
    }

    private static void lowestBits() {
        kept(0, 127, 127);
        kept(0, 128, -128);
        kept(0, -128, -128);
        kept(0, -129, 127);
        kept(0, 255, -1);
        kept(0, 256, 0);
        kept(0, Long.MIN_VALUE, 0);
        kept(0, Long.MAX_VALUE, -1);
        kept(1, 32767, 32767);
        kept(1, 32768, -32768);
        kept(1, -32768, -32768);
        kept(1, -32769, 32767);
        kept(1, 65535, -1);
        kept(1, 65536, 0);
        kept(2, 2147483647L, 2147483647L);
        kept(2, 2147483648L, -2147483648L);
        kept(2, -2147483648L, -2147483648L);
        kept(2, -2147483649L, 2147483647L);
        kept(2, 4294967295L, -1);
        kept(2, 4294967296L, 0);
        kept(3, Long.MAX_VALUE, Long.MAX_VALUE);
        kept(3, Long.MIN_VALUE, Long.MIN_VALUE);
        kept(3, 4294967296L, 4294967296L);
    }

    private static void setRefused() {
        Run.allRefused("no such SHELF", -1, "set(-1, 0, 0)", "set(8, 0, 0)", "set(" + MIN + ", 0, 0)");
        Run.allRefused("a PERSON where a ROW is wanted", -2, "set(1, 0, 0)", "set(7, 0, 0)");
        Run.refused("a SHELF that holds NOTHING", -3, "set(2, 0, 0)");
        Run.allRefused("an element that isn't there", -5, "set(0, -1, 9)", "set(0, 3, 9)", "set(4, 160, 9)",
            "set(0, " + MIN + ", 9)", "set(0, " + MAX + ", 9)");
        Run.refused("-1 before -5", -1, "set(8, -1, 0)");
        Run.refused("-2 before -5", -2, "set(1, -1, 0)");
        Run.refused("-3 before -5", -3, "set(2, -1, 0)");
    }

    private static void copied(String why, String call, long... want) {
        for (int i = 0; i < want.length; i++) {
            Run.due(why + ", " + call, want[i], "ints 0: 1, 2, 3, 4, 5", "ints 1: 6, 7, 8", call, "element(1, " + i + ")");
        }
    }

    private static void copiedWithin(String why, String call, long... want) {
        for (int i = 0; i < want.length; i++) {
            Run.due(why + ", " + call, want[i], "ints 0: 1, 2, 3, 4, 5", call, "element(0, " + i + ")");
        }
    }

    private static void copyTaken() {
        String[] rows = {"ints 0: 1, 2, 3, 4, 5", "ints 1: 6, 7, 8"};
        Run.due("copy", 1, rows[0], rows[1], "copy(0, 1, 0, 0, 3)");
        copied("from the first", "copy(0, 1, 0, 0, 3)", 1, 2, 3);
        copied("to the last", "copy(0, 1, 4, 2, 1)", 6, 7, 5);
        copied("as far as they go", "copy(0, 1, 2, 0, 3)", 3, 4, 5);
        copied("n of them", "copy(0, 1, 1, 1, 1)", 6, 2, 8);
        copied("none", "copy(0, 1, 0, 0, 0)", 6, 7, 8);
        Run.due("none, from 0", 1, rows[0], rows[1], "copy(0, 1, 0, 0, 0)");
        Run.due("none, behind the last", 1, rows[0], rows[1], "copy(0, 1, 5, 3, 0)");
        Run.due("none, of ROWS without elements", 1, "row(0, 1, 0)", "row(1, 1, 0)", "copy(0, 1, 0, 0, 0)");
        copiedWithin("as they were ahead, downwards", "copy(0, 0, 0, 1, 4)", 1, 1, 2, 3, 4);
        copiedWithin("as they were ahead, upwards", "copy(0, 0, 1, 0, 4)", 2, 3, 4, 5, 5);
        copiedWithin("as they were ahead, at once", "copy(0, 0, 0, 0, 5)", 1, 2, 3, 4, 5);
        Run.due("the first of 160", 9, "row(0, 3, 160)", "row(7, 3, 160)", "set(0, 0, 9)", "copy(0, 7, 0, 0, 160)",
            "element(7, 0)");
        Run.due("the last of 160", 9, "row(0, 3, 160)", "row(7, 3, 160)", "set(0, 159, 9)", "copy(0, 7, 0, 0, 160)",
            "element(7, 159)");
        Run.due("longs wholly", 1L << 40, "row(0, 3, 1)", "row(7, 3, 1)", "set(0, 0, " + (1L << 40) + ")",
            "copy(0, 7, 0, 0, 1)", "element(7, 0)");
    }

    private static void copyRefused() {
        Run.allRefused("no such SHELF", -1, "copy(-1, 0, 0, 0, 0)", "copy(8, 0, 0, 0, 0)", "copy(0, -1, 0, 0, 0)",
            "copy(0, 8, 0, 0, 0)");
        Run.allRefused("a PERSON where a ROW is wanted", -2, "copy(1, 0, 0, 0, 0)", "copy(0, 1, 0, 0, 0)",
            "copy(1, 7, 0, 0, 0)");
        Run.allRefused("two SORTS", -2, "copy(0, 3, 0, 0, 0)", "copy(3, 0, 0, 0, 0)", "copy(0, 4, 0, 0, 1)");
        Run.allRefused("NOTHING on either", -3, "copy(2, 0, 0, 0, 0)", "copy(0, 2, 0, 0, 0)", "copy(2, 2, 0, 0, 0)");
        Run.refused("two SORTS only when both hold something", -3, "copy(2, 3, 0, 0, 0)");
        Run.allRefused("n below 0", -4, "copy(0, 5, 0, 0, -1)", "copy(0, 0, 0, 0, " + MIN + ")");
        Run.allRefused("i below 0", -5, "copy(0, 5, -1, 0, 0)", "copy(0, 5, -1, 0, 1)", "copy(0, 5, " + MIN + ", 0, 1)");
        Run.allRefused("j below 0", -5, "copy(0, 5, 0, -1, 0)", "copy(0, 5, 0, -1, 1)", "copy(0, 5, 0, " + MIN + ", 1)");
        Run.allRefused("an end that isn't there", -5, "copy(0, 5, 0, 0, 4)", "copy(0, 5, 3, 0, 1)",
            "copy(0, 5, 4, 0, 0)", "copy(0, 5, 0, 39, 3)", "copy(0, 5, 0, 42, 0)", "copy(5, 0, 0, 1, 3)");
        Run.allRefused("an end beyond all numbers", -5, "copy(0, 5, 3, 0, " + MAX + ")", "copy(0, 5, " + MAX + ", 0, 1)",
            "copy(0, 5, 0, " + MAX + ", 1)", "copy(0, 0, " + MAX + ", " + MAX + ", " + MAX + ")");
        Run.refused("-1 before -2", -1, "copy(1, 8, 0, 0, 0)");
        Run.refused("-1 before -3", -1, "copy(8, 2, 0, 0, 0)");
        Run.refused("-1 before -4", -1, "copy(0, -1, 0, 0, -1)");
        Run.refused("-1 before -5", -1, "copy(-1, 0, -1, 0, 0)");
        Run.refused("-2 before -3", -2, "copy(1, 2, 0, 0, 0)");
        Run.refused("-2 before -3", -2, "copy(2, 1, 0, 0, 0)");
        Run.refused("-2 before -4", -2, "copy(1, 0, 0, 0, -1)");
        Run.refused("-2 before -4", -2, "copy(0, 3, 0, 0, -1)");
        Run.refused("-2 before -5", -2, "copy(0, 1, -1, 0, 0)");
        Run.refused("-2 before -5", -2, "copy(0, 3, 99, 99, 9)");
        Run.refused("-3 before -4", -3, "copy(2, 0, 0, 0, -1)");
        Run.refused("-3 before -5", -3, "copy(0, 2, 0, -1, 0)");
        Run.refused("-4 before -5", -4, "copy(0, 5, -1, -1, -1)");
    }

    private static void elements() {
        String row = "ints 0: 5, 6";
        Run.due("the first", 5, row, "element(0, 0)");
        Run.due("the last", 6, row, "element(0, 1)");
        Run.due("0 if there is none", 0, row, "element(0, -1)");
        Run.due("0 if there is none", 0, row, "element(0, 2)");
        Run.due("0 if there is none", 0, row, "element(0, " + MAX + ")");
        Run.due("0 if there is none", 0, row, "element(0, " + MIN + ")");
        Run.due("0 of no such SHELF", 0, row, "element(-1, 0)");
        Run.due("0 of no such SHELF", 0, row, "element(8, 0)");
        Run.due("0 of NOTHING", 0, row, "element(1, 0)");
        Run.due("0 of a ROW no longer there", 0, row, "show(0, -1)", "element(0, 0)");
        Run.due("0 of a PERSON", 0, row, "person(0, 0, 1)", "show(0, 0)", "element(0, 0)");
        for (int what = 11; what <= 17; what++) {
            Run.due("nothing is refused", 0, "row(0, 0, 1)", "element(8, 0)", "element(1, 0)", "element(0, 1)",
                "status(" + what + ")");
        }
    }

    private static void shows() {
        String[] two = {"person(0, 0, 1)", "person(1, 0, 1)"};
        Run.due("PERSON 0", 1, two[0], two[1], "show(0, 0)");
        Run.due("the last PERSON", 1, two[0], two[1], "show(7, 1)");
        Run.due("it holds a PERSON", 1, two[0], two[1], "show(7, 1)", "holds(7)");
        Run.due("NOTHING", 0, "show(0, -1)");
        Run.due("NOTHING in place of a PERSON", -1, two[0], "show(0, 0)", "show(0, -1)", "holds(0)");
        Run.due("NOTHING in place of a ROW", -1, "row(0, 0, 1)", "show(0, -1)", "holds(0)");
        Run.due("a PERSON in place of a ROW", 0, two[0], "row(0, 0, 1)", "show(0, 0)", "holds(0)");
        Run.due("a PERSON in place of another", 1, two[0], two[1], "show(0, 0)", "show(0, 1)", "holds(0)");
        Run.due("one who is all dead", 1, two[0], "dies(0) x6", "show(0, 0)");
        Run.allRefused("no such SHELF", -1, "show(-1, 0)", "show(8, 0)", "show(8, -1)", "show(" + MAX + ", 0)");
        Run.allRefused("no such PERSON", -1, "show(0, 2)", "show(2, -2)", "show(1, " + MIN + ")", "show(7, 6)");
        Run.refusedOn(new String[0], "no such PERSON, none at all", -1, "show(0, 0)");
    }

    private static void holdings() {
        Run.due("NONE, no such SHELF", -1, "holds(-1)");
        Run.due("NONE, no such SHELF", -1, "holds(8)");
        Run.due("NONE, no such SHELF", -1, "holds(" + MIN + ")");
        Run.due("nothing is refused", 0, "holds(-1)", "holds(8)", "status(11)");
        Run.due("PERSON 5", 5, "person(0, 0, 1) x6", "show(3, 5)", "holds(3)");
        Run.due("PERSON 0", 0, "person(0, 0, 1)", "show(0, 0)", "holds(0)");
    }

    private static void says(int kind, int as, int want) {
        Run.due("KIND " + kind + " taken for " + as, want, "person(" + kind + ", 3, 7)", "dies(0)", "show(4, 0)",
            "says(4, " + as + ")");
    }

    private static void sayings() {
        // Which KINDS each is under, with what is said: THICK 7, OUT 1, LOSS at the fifth and at the first sheet.
        int[][] all = {
            {7, -2, -2, -2, -2, -2, -2},
            {7, 1, -2, -2, -2, -2, -2},
            {7, -2, 9, -2, -2, -2, -2},
            {7, -2, 18, 18, -2, -2, -2},
            {7, -2, -2, -2, 3, -2, -2},
            {7, -2, -2, -2, 4, 4, -2},
            {7, 1, -2, -2, -2, -2, 1}};
        for (int kind = 0; kind <= 6; kind++) {
            for (int as = 0; as <= 6; as++) {
                says(kind, as, all[kind][as]);
            }
        }
        String[] dead = {"person(6, 3, 7)", "dies(0) x6", "show(0, 0)"};
        Run.due("OUT of one who is all dead", 6, dead[0], dead[1], dead[2], "says(0, 1)");
        Run.due("OUT of one who is all dead", 6, dead[0], dead[1], dead[2], "says(0, 6)");
        Run.due("OUT at first", 0, dead[0], dead[2], "says(0, 6)");
        Run.due("SHELF 7", 7, dead[0], "show(7, 0)", "says(7, 0)");
    }

    private static void sayingsRefused() {
        Run.allRefused("no such SHELF", -1, "says(-1, 0)", "says(8, 0)");
        Run.allRefused("no such KIND", -1, "says(1, -1)", "says(1, 7)", "says(7, " + MAX + ")");
        Run.allRefused("a ROW where a PERSON is wanted", -2, "says(0, 0)", "says(3, 6)");
        Run.allRefused("a PERSON of another KIND", -2, "says(1, 1)", "says(1, 6)", "says(7, 2)", "says(7, 5)");
        for (int kind = 0; kind <= 6; kind++) {
            Run.refused("NOTHING", -3, "says(2, " + kind + ")");
        }
        Run.refused("-1 before -2", -1, "says(0, 7)");
        Run.refused("-1 before -2", -1, "says(1, -1)");
        Run.refused("-1 before -3", -1, "says(2, 7)");
    }
}
