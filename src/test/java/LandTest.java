/** Promises 9 to 15: persons, their copies, strengths, drifts, losses. */
public final class LandTest {
    public static void main(String[] args) {
        persons();
        least();
        tellings();
        losses();
        drifts();
        Check.end("LandTest");
    }

    private static void persons() {
        CarbonCopies x = new CarbonCopies();
        Check.due("person -1 before -6", x.person(-1, 10, 0), -1);
        Check.due("person -1", x.person(7, 0, 1), -1);
        Check.due("person -6", x.person(0, -1, 1), -6);
        Check.due("person -6", x.person(0, 10, 1), -6);
        Check.due("person -6", x.person(0, 0, 0), -6);
        Check.due("person -6", x.person(0, 0, 21), -6);
        for (int p = 0; p < 6; p++) {
            Check.due("person", x.person(6 - p, p == 0 ? 9 : p, p == 0 ? 20 : p), p);
            Check.due("status", x.status(0), p + 1);
        }
        Check.due("person -1 before -7", x.person(7, 0, 1), -1);
        Check.due("person -6 before -7", x.person(0, 0, 21), -6);
        Check.due("person -7", x.person(0, 0, 1), -7);
        for (int p = 0; p < 6; p++) {
            Check.due("kind", x.personOf(p, 0), 6 - p);
            Check.due("a", x.personOf(p, 1), p == 0 ? 9 : p);
            Check.due("thick", x.personOf(p, 2), p == 0 ? 20 : p);
            Check.due("out", x.personOf(p, 3), 0);
            Check.due("read", x.personOf(p, 4), 0);
            Check.due("rubbed", x.personOf(p, 5), 0);
        }
        Check.dueAll("refusals", Check.refusals(x), 3, 0, 0, 0, 0, 5, 1);
    }

    private static void least() {
        CarbonCopies x = new CarbonCopies();
        x.person(0, 0, 1);
        x.press(0, 2, 9);
        Check.due("has", x.copyOf(0, 0, 1), 0);
        Check.due("ask", x.ask(9), 10);
        Check.due("has", x.copyOf(0, 0, 1), 4);
        Check.due("has", x.copyOf(0, 1, 1), 0);
        Check.due("ask", x.ask(1), 9);
        Check.due("ask", x.ask(99), 1);
        Check.due("ask -6", x.ask(0), -6);
        Check.due("ask -6", x.ask(100), -6);
        Check.due("ask -6", x.ask(-1), -6);
        Check.due("status", x.status(2), 99);
        Check.due("status", x.status(16), 3);
    }

    private static void tellings() {
        CarbonCopies x = new CarbonCopies();
        x.person(0, 4, 2);
        x.press(0, 0, 50);
        x.press(0, 7, 20);
        x.press(0, 3, 5);
        x.rub(0, 5, 2);
        x.rub(0, 5, 2);
        x.rub(0, 2, 7);
        x.dies(0);
        x.dies(0);
        x.dies(0);
        Check.due("out", x.personOf(0, 3), 3);
        Check.due("read", x.personOf(0, 4), 40 + 10);
        Check.due("rubbed", x.personOf(0, 5), 3);
        Check.due("smears", x.copyOf(0, 5, 0), 2);
        Check.due("smears", x.copyOf(0, 2, 0), 1);
        Check.due("smears", x.copyOf(0, 3, 0), 0);
        Check.due("has, dead", x.copyOf(0, 0, 1), 129);
        Check.due("has, rubbed", x.copyOf(0, 2, 1), 1);
        Check.due("has", x.copyOf(0, 5, 1), 129);
        Check.due("dead", x.copyOf(0, 2, 2), 1);
        Check.due("not dead", x.copyOf(0, 3, 2), 0);
        Check.dueAll("strengths", Check.strengths(x, 0, 3), 5, 3, 1, 0, 0, 0);
        Check.diesTimes(x, 0, 3);
        Check.due("read of a dead one", x.personOf(0, 4), 50);
        Check.due("dead", x.copyOf(0, 5, 2), 1);
        int[][] beyond = {{-1, 0}, {1, 0}, {0, -1}, {0, 6}};
        for (int[] b : beyond) {
            Check.due("personOf -5", x.personOf(b[0], b[1]), -5);
        }
        int[][] beyondCopy = {{-1, 0, 0}, {1, 0, 0}, {0, -1, 0}, {0, 6, 0}, {0, 0, -1}, {0, 0, 3}};
        for (int[] b : beyondCopy) {
            Check.due("copyOf -5", x.copyOf(b[0], b[1], b[2]), -5);
        }
        int[][] beyondDeed = {{-1, 0, 0}, {1, 0, 0}, {0, -1, 0}, {0, 6, 0}, {0, 0, -1}, {0, 0, 8}};
        for (int[] b : beyondDeed) {
            Check.due("strength -5", x.strength(b[0], b[1], b[2]), -5);
        }
        int[][] beyondDrift = {{-1, 0}, {1, 0}, {0, -1}, {0, 6}};
        for (int[] b : beyondDrift) {
            Check.due("drift -5", x.drift(b[0], b[1]), -10005);
        }
        Check.dueAll("refusals", Check.refusals(x), 0, 0, 0, 0, 20, 0, 0);
    }

    private static void losses() {
        CarbonCopies x = new CarbonCopies();
        x.person(0, 3, 7);
        x.person(1, 3, 7);
        x.person(2, 3, 7);
        x.person(3, 3, 7);
        x.person(4, 3, 7);
        x.person(5, 3, 7);
        Check.dueAll("PERSON", Check.losses(x, 0), 7, 7, 7, 7, 7);
        Check.dueAll("TOP", Check.losses(x, 1), 0, 7, 7, 7, 7);
        Check.dueAll("FAINT", Check.losses(x, 2), 9, 9, 9, 9, 9);
        Check.dueAll("VIOLET", Check.losses(x, 3), 9, 9, 9, 9, 18);
        Check.dueAll("HARD", Check.losses(x, 4), 3, 3, 3, 3, 3);
        Check.dueAll("BLUE", Check.losses(x, 5), 4, 4, 4, 4, 4);
        x.dies(1);
        Check.due("the first sheet is that below the copy that is out", x.loss(1, 1), 0);
        Check.due("loss -1", x.loss(6, 0), -1);
        Check.due("loss -1", x.loss(-1, 1), -1);
        Check.due("loss -6", x.loss(0, 0), -6);
        Check.due("loss -6", x.loss(0, 6), -6);
        CarbonCopies y = new CarbonCopies();
        y.person(6, 4, 7);
        y.person(5, 4, 7);
        y.person(4, 4, 1);
        y.person(5, 9, 1);
        Check.dueAll("CREASED", Check.losses(y, 0), 0, 7, 11, 7, 7);
        Check.dueAll("BLUE, even", Check.losses(y, 1), 3, 3, 3, 3, 3);
        Check.dueAll("HARD, thin", Check.losses(y, 2), 0, 0, 0, 0, 0);
        Check.dueAll("BLUE, thin", Check.losses(y, 3), 1, 1, 1, 1, 1);
    }

    private static void drifts() {
        CarbonCopies x = new CarbonCopies();
        x.person(0, 5, 1);
        x.person(6, 9, 1);
        x.person(6, 0, 1);
        x.press(0, 0, 4);
        x.press(1, 0, 40);
        x.press(2, 0, 40);
        Check.dueAll("only where something came", Check.drifts(x, 0), 0, 1, 2, 3, 0, 0);
        Check.dueAll("CREASED", Check.drifts(x, 1), 0, 9, 18, 28, 37, 46);
        Check.dueAll("CREASED, a 0", Check.drifts(x, 2), 0, 0, 0, 1, 1, 1);
        x.dies(1);
        x.press(1, 0, 40);
        Check.dueAll("from the copy that is out", Check.drifts(x, 1), 0, 9, 27, 46, 65, 83);
        for (int i = 0; i < 40; i++) {
            x.press(1, 1, 99);
        }
        Check.dueAll("999 at most", Check.drifts(x, 1), 0, 9, 387, 766, 999, 999);
    }
}
