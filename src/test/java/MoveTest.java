/** Promises 39 to 43: moves and their trace, the image, and how many there are of all. */
public final class MoveTest {
    public static void main(String[] args) {
        moves();
        wrapping();
        noMoves();
        images();
        restoredKinds();
        statuses();
        Check.end("MoveTest");
    }

    private static void moves() {
        CarbonCopies x = new CarbonCopies();
        for (int p = 0; p < 6; p++) {
            Check.due("person", x.person(p, p + 1, 5), p);
        }
        Check.due("PERSON lives", x.act(0, 0, 7), 7);
        Check.dueAll("trace", Check.traced(x), 10);
        Check.due("PERSON goes", x.act(0, 1, 7), 14);
        Check.dueAll("trace", Check.traced(x), 11, 10);
        Check.due("PERSON looks", x.act(0, 2, 7), 14 ^ 6);
        Check.dueAll("trace", Check.traced(x), 12, 11, 10, 10);
        Check.due("TOP lives", x.act(1, 0, 7), 7 + 1 + 2);
        Check.dueAll("trace", Check.traced(x), 20, 10);
        Check.due("TOP goes", x.act(1, 1, 7), 20);
        Check.dueAll("trace", Check.traced(x), 11, 20, 10);
        Check.due("TOP looks", x.act(1, 2, 7), 20 ^ 8);
        Check.dueAll("trace", Check.traced(x), 12, 11, 20, 10, 20, 10);
        Check.due("FAINT lives", x.act(2, 0, 7), 9);
        Check.dueAll("trace", Check.traced(x), 10);
        Check.due("FAINT goes", x.act(2, 1, 7), 54);
        Check.dueAll("trace", Check.traced(x), 30, 11, 10);
        Check.due("FAINT looks", x.act(2, 2, 7), 54 ^ 6);
        Check.dueAll("trace", Check.traced(x), 12, 30, 11, 10, 10);
        Check.due("VIOLET goes", x.act(3, 1, 7), 66);
        Check.dueAll("trace", Check.traced(x), 40, 30, 11, 10);
        Check.due("VIOLET looks", x.act(3, 2, 7), 66 ^ 6);
        Check.dueAll("trace", Check.traced(x), 12, 40, 30, 11, 10, 10);
        Check.due("HARD lives", x.act(4, 0, 7), 7);
        Check.dueAll("trace", Check.traced(x), 51, 10);
        Check.due("HARD goes", x.act(4, 1, 7), 14);
        Check.dueAll("trace", Check.traced(x), 11, 51, 10);
        Check.due("HARD looks", x.act(4, 2, 7), -(14 ^ 2));
        Check.dueAll("trace", Check.traced(x), 50, 12, 11, 51, 10, 51, 10);
        Check.due("BLUE looks", x.act(5, 2, 7), -(14 ^ 1) ^ 5);
        Check.dueAll("trace", Check.traced(x), 60, 50, 12, 11, 51, 10, 51, 10);
        CarbonCopies y = new CarbonCopies();
        y.person(0, 0, 1);
        y.person(6, 3, 1);
        Check.due("CREASED lives", y.act(1, 0, 7), (7 + 1 + 3) * 2);
        Check.dueAll("trace", Check.traced(y), 70, 20, 10);
        Check.due("CREASED goes", y.act(1, 1, 7), (4 + 1 + 3) * 2 * 2);
        Check.dueAll("trace", Check.traced(y), 71, 11, 70, 20, 10);
        Check.due("CREASED looks", y.act(1, 2, 7), 32 ^ 16);
        Check.dueAll("trace", Check.traced(y), 12, 71, 11, 70, 20, 10, 70, 20, 10);
        Check.due("trace", y.trace(9), -1);
        Check.due("trace", y.trace(-1), -1);
        Check.due("trace", y.trace(20), -1);
        Check.due("refusals", y.status(15), 0);
    }

    private static void wrapping() {
        CarbonCopies x = new CarbonCopies();
        x.person(0, 9, 1);
        x.person(6, 9, 1);
        int high = 2147483647;
        Check.due("lives", x.act(1, 0, high), (high + 1 + 9) * 2);
        Check.due("goes", x.act(0, 1, high), -2);
        Check.due("looks", x.act(0, 2, -2147483648), 0 ^ 2147483639);
        Check.due("goes", x.act(1, 1, -2147483648), ((-2147483648 - 9 + 1 + 9) * 2) * 2);
    }

    private static void noMoves() {
        CarbonCopies x = new CarbonCopies();
        x.person(1, 2, 3);
        x.act(0, 2, 5);
        Check.due("status", x.status(6), 6);
        Check.due("no such move", x.act(0, 3, 5), 0);
        Check.due("no trace", x.status(6), 0);
        Check.due("no trace", x.trace(0), -1);
        x.act(0, 2, 5);
        Check.due("no such move", x.act(0, -1, 5), 0);
        Check.due("no trace", x.status(6), 0);
        x.act(0, 0, 5);
        Check.due("no such person", x.act(1, 0, 5), 0);
        Check.due("no trace", x.trace(0), -1);
        x.act(0, 0, 5);
        Check.due("no such person", x.act(-1, 0, 5), 0);
        Check.due("no trace", x.trace(0), -1);
        Check.dueAll("nothing is refused", Check.refusals(x), 0, 0, 0, 0, 0, 0, 0);
    }

    private static void images() {
        CarbonCopies x = new CarbonCopies();
        Check.due("restore -6", x.restore(), -6);
        x.person(6, 1, 10);
        x.press(0, 0, 50);
        x.rub(0, 1, 0);
        x.dies(0);
        x.ask(20);
        x.seed(99);
        Check.due("image", x.image(), 1);
        x.person(3, 2, 7);
        Check.ints(x, 0, 5);
        x.show(1, 0);
        x.show(2, 1);
        x.press(0, 0, 99);
        x.press(1, 0, 99);
        x.rub(0, 1, 0);
        x.dies(0);
        x.ask(3);
        x.seed(1);
        x.act(1, 1, 1);
        Check.due("land -6", x.land(0), -6);
        Check.due("restore", x.restore(), 1);
        Check.due("persons", x.status(0), 1);
        Check.due("out", x.personOf(0, 3), 1);
        Check.due("least", x.status(2), 20);
        Check.due("seed", x.status(5), 99);
        Check.dueAll("strengths", Check.strengths(x, 0, 0), 50, 0, 40, 29, 19, 9);
        Check.dueAll("drifts", Check.drifts(x, 0), 0, 1, 2, 4, 5, 6);
        Check.due("smears", x.copyOf(0, 1, 0), 1);
        Check.due("a row stays", x.element(0, 0), 5);
        Check.due("a person who is there stays", x.holds(1), 0);
        Check.due("of one who is not nothing is left", x.holds(2), -1);
        Check.due("says", x.says(2, 0), -3);
        Check.due("the trace stays", x.status(6), 4);
        Check.due("the trace stays", x.trace(0), 40);
        Check.due("the fault stays", x.fault(), 0);
        Check.due("refusals stay", x.status(16), 2);
        Check.due("a new one is new", x.person(3, 2, 7), 1);
        Check.due("a new one is new", x.personOf(1, 4), 0);
        Check.due("nothing", x.holds(2), -1);
        Check.due("the image stays", x.restore(), 1);
        Check.due("image", x.image(), 1);
    }

    private static void restoredKinds() {
        CarbonCopies x = new CarbonCopies();
        Check.due("image of nobody", x.image(), 0);
        for (int kind = 0; kind < 7; kind++) {
            Check.due("person", x.person(kind, 1, 10), 0);
            x.press(0, 2, 60);
            Check.due("restore", x.restore(), 0);
            Check.due("nobody", x.personOf(0, 0), -5);
            Check.due("no strengths", x.status(3), 0);
        }
        x.person(5, 1, 10);
        x.show(3, 0);
        x.dies(0);
        x.image();
        for (int i = 0; i < 2; i++) {
            Check.due("restore", x.restore(), 1);
            Check.due("kind", x.personOf(0, 0), 5);
            Check.due("BLUE", x.loss(0, 1), 6);
            Check.due("says", x.says(3, 5), 6);
            Check.due("BLUE looks", x.act(0, 2, 7), -(14 ^ 6) ^ 5);
            x.dies(0);
        }
    }

    private static void statuses() {
        CarbonCopies x = new CarbonCopies();
        x.person(0, 0, 10);
        x.person(1, 0, 10);
        x.press(0, 0, 30);
        x.press(1, 1, 5);
        x.rub(1, 1, 1);
        x.dies(1);
        x.dies(1);
        x.dies(0);
        int[] want = {2, 3, 10, 30 + 20 + 10 + 5, 1, 1, 0};
        for (int what = 0; what < 7; what++) {
            Check.due("status(" + what + ")", x.status(what), want[what]);
        }
        int[] none = {-1, 7, 8, 9, 10, 18, 19, 2147483647, -2147483648};
        for (int what : none) {
            Check.due("status(" + what + ")", x.status(what), -1);
        }
        x.row(8, 0, 0);
        x.row(0, 0, -1);
        x.row(0, 0, -1);
        x.row(0, 0, 161);
        x.drift(9, 9);
        x.show(0, 0);
        x.set(0, 0, 0);
        x.set(1, 0, 0);
        x.judge(1, 1);
        x.next(1, 1, 1);
        x.force(0, 0, 0, 0);
        x.paired(0, 0, 0);
        x.straight(0, 7);
        Check.dueAll("refusals, of lower numbers too", Check.refusals(x), 2, 1, 3, 2, 2, 1, 1);
    }
}
