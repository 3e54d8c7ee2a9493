/** Promises 18 to 30: what comes of it, with nothing changed. */
public final class TellingTest {
    public static void main(String[] args) {
        haves();
        forces();
        gots();
        whiches();
        nexts();
        unlikes();
        odds();
        mends();
        pairs();
        bearers();
        straights();
        Check.end("TellingTest");
    }

    /** Copies 0 to 5 of person 0 have a deed 0 for each bit of the sets. */
    private static CarbonCopies having(int... sets) {
        CarbonCopies x = new CarbonCopies();
        x.person(0, 0, 1);
        give(x, 0, sets);
        return x;
    }

    /** Everybody gets everything, then it is rubbed where it is not wanted. */
    private static void give(CarbonCopies x, int person, int... sets) {
        for (int deed = 0; deed < 8; deed++) {
            x.press(person, deed, 99);
            for (int copy = 0; copy < 6; copy++) {
                if ((sets[copy] >> deed & 1) == 0) {
                    x.rub(person, copy, deed);
                }
            }
        }
    }

    private static void haves() {
        CarbonCopies x = having(3, 1, 7, 5, 1, 9);
        Check.due("have", x.have(0, 0), 63);
        Check.due("have", x.have(0, 1), 5);
        Check.due("have", x.have(0, 2), 12);
        Check.due("have", x.have(0, 3), 32);
        Check.due("have", x.have(0, 7), 0);
        Check.due("all", x.all(0), 1);
        Check.diesTimes(x, 0, 1);
        Check.due("have, not the dead", x.have(0, 1), 4);
        Check.diesTimes(x, 0, 4);
        Check.due("all, the lowest", x.all(0), 9);
        Check.due("have", x.have(0, 3), 32);
        x.dies(0);
        Check.due("have, all dead", x.have(0, 0), 0);
        Check.due("all of none", x.all(0), 255);
        Check.due("have -1", x.have(1, 8), -1);
        Check.due("have -1", x.have(-1, 0), -1);
        Check.due("have -6", x.have(0, 8), -6);
        Check.due("have -6", x.have(0, -1), -6);
        Check.due("all -1", x.all(1), -1);
        Check.due("all -1", x.all(-1), -1);
        Check.dueAll("refusals", Check.refusals(x), 4, 0, 0, 0, 0, 2, 0);
    }

    private static void forces() {
        CarbonCopies x = new CarbonCopies();
        x.person(0, 0, 10);
        x.person(1, 0, 10);
        x.person(0, 0, 20);
        int[] down = {10, 20, 30, 40, 50, 60};
        for (int k = 0; k < 6; k++) {
            Check.due("force", x.force(0, 0, k, 0), down[k]);
            Check.due("just", x.force(0, 0, k, 1), down[k]);
        }
        Check.due("the first sheet of TOP is thin", x.force(1, 0, 0, 0), 10);
        Check.due("so one above is never alone", x.force(1, 0, 0, 1), -1);
        Check.due("just", x.force(1, 0, 1, 1), 10);
        Check.due("force within 99", x.force(2, 0, 4, 0), 90);
        Check.due("force beyond 99", x.force(2, 0, 5, 0), -1);
        x.press(0, 1, 25);
        Check.due("what is there helps", x.force(0, 1, 2, 0), 25);
        Check.due("force", x.force(0, 1, 3, 0), 40);
        Check.due("force", x.force(0, 1, 1, 0), 1);
        Check.due("just", x.force(0, 1, 1, 1), 1);
        Check.due("just, but one below has it already", x.force(0, 1, 0, 1), -1);
        x.rub(0, 0, 1);
        Check.due("force, all from the copy that is out", x.force(0, 1, 1, 0), 10);
        x.dies(0);
        Check.due("force", x.force(0, 1, 1, 0), 1);
        Check.due("sheets from the copy that is out", x.force(0, 0, 2, 0), 20);
        x.ask(99);
        Check.due("force for 99", x.force(0, 0, 1, 0), 99);
        Check.due("force for 99", x.force(0, 0, 2, 0), -1);
        Check.due("force -1", x.force(3, 8, 9, 9), -11);
        Check.due("force -1", x.force(-1, 0, 0, 0), -11);
        Check.due("force -5 before -6", x.force(0, 8, 9, 2), -15);
        Check.due("force -5", x.force(0, 0, 1, -1), -15);
        Check.due("force -6 deed", x.force(0, 8, 1, 0), -16);
        Check.due("force -6 deed", x.force(0, -1, 1, 1), -16);
        Check.due("force -6 copy", x.force(0, 0, 6, 0), -16);
        Check.due("force -6 copy", x.force(0, 0, -1, 0), -16);
        Check.due("force -6 dead", x.force(0, 0, 0, 0), -16);
        Check.dueAll("refusals", Check.refusals(x), 2, 0, 0, 0, 2, 5, 0);
        Check.dueAll("nothing is pressed", Check.strengths(x, 0, 1), 0, 15, 5, 0, 0, 0);
    }

    private static void gots() {
        CarbonCopies x = new CarbonCopies();
        x.person(6, 3, 6);
        x.person(3, 0, 10);
        int[] down = {50, 50, 44, 35, 29, 23};
        for (int k = 0; k < 6; k++) {
            Check.due("got", x.got(0, k, 50), down[k]);
        }
        Check.due("got of 1", x.got(0, 1, 1), 1);
        Check.due("0 at least", x.got(0, 2, 1), 0);
        Check.due("got", x.got(1, 5, 99), 27);
        Check.due("0 at least", x.got(1, 5, 72), 0);
        Check.due("got", x.got(1, 5, 73), 1);
        x.dies(0);
        x.dies(0);
        Check.due("from the copy that is out", x.got(0, 3, 50), 50);
        Check.due("got", x.got(0, 5, 50), 35);
        Check.due("got -1", x.got(2, 9, 0), -1);
        Check.due("got -1", x.got(-1, 0, 1), -1);
        Check.due("got -6", x.got(0, 6, 1), -6);
        Check.due("got -6", x.got(0, -1, 1), -6);
        Check.due("got -6, dead", x.got(0, 1, 1), -6);
        Check.due("got -6", x.got(0, 2, 0), -6);
        Check.due("got -6", x.got(0, 2, 100), -6);
        Check.due("nothing is pressed", x.status(3), 0);
    }

    private static void whiches() {
        CarbonCopies x = new CarbonCopies();
        x.person(0, 0, 10);
        x.person(0, 0, 5);
        x.press(0, 0, 50);
        x.press(1, 0, 40);
        x.press(1, 1, 7);
        Check.ints(x, 0, 30, 0, 0);
        Check.due("which", x.which(0, 1, 0, -1), 2);
        Check.due("which", x.which(0, 1, 0, 0), 2);
        Check.due("which", x.which(0, 1, 0, 1), 12);
        Check.due("which", x.which(0, 1, 5, -1), 4);
        Check.due("which", x.which(0, 1, 4, -1), 2);
        Check.due("which", x.which(0, 1, 5, 3), 13);
        Check.due("which, off", x.which(0, 1, 20, -1), 5 + 6);
        Check.due("which", x.which(0, 2, 0, -1), 2);
        x.dies(0);
        x.dies(0);
        x.dies(0);
        Check.due("not the dead", x.which(0, 1, 0, -1), 1);
        Check.due("not the dead", x.which(0, 1, 0, 0), 12);
        x.set(0, 0, -2147483648);
        Check.due("far off", x.which(0, 1, 20, -1), 0);
        x.set(0, 0, 2147483647);
        Check.due("far off", x.which(0, 1, 20, -1), 0);
        x.row(1, 3, 8);
        x.set(1, 0, (7L << 32) + 30);
        x.set(1, 1, 1L << 40);
        Check.due("of longs the lowest 32 bits", x.which(1, 2, 0, -1), 1);
        Check.due("which of 8", x.which(1, 8, 0, -1), 1);
        x.show(2, 0);
        Check.due("which -1", x.which(8, -1, 99, 0), -1);
        Check.due("which -1", x.which(-1, 1, 0, -1), -1);
        Check.due("which -2", x.which(2, -1, 99, 0), -2);
        Check.due("which -3", x.which(3, -1, 99, 0), -3);
        Check.due("which -4", x.which(0, -1, 99, 0), -4);
        Check.due("which -5 before -6", x.which(0, 4, 99, 0), -5);
        Check.due("which -6 n", x.which(0, 0, 0, -1), -6);
        x.row(4, 0, 9);
        Check.due("which -6 n", x.which(4, 9, 0, -1), -6);
        Check.due("which -6 e", x.which(0, 1, 21, -1), -6);
        Check.due("which -6 e, whatever i", x.which(0, 1, -1, 99), -6);
        Check.due("which -5 i", x.which(1, 2, 0, 1), -5);
        Check.due("which -5 i", x.which(1, 2, 0, -2), -5);
        Check.dueAll("refusals", Check.refusals(x), 2, 1, 1, 1, 3, 4, 0);
        Check.due("which of nobody", none().which(0, 1, 20, -1), 0);
        Check.due("which of nobody", none().which(0, 1, 20, 0), -5);
    }

    private static CarbonCopies none() {
        CarbonCopies x = new CarbonCopies();
        x.row(0, 0, 8);
        return x;
    }

    private static void nexts() {
        CarbonCopies x = having(0, 2, 6, 2, 6, 130);
        Check.ints(x, 0, 0, 99, 99, 0, 0, 0, 0, 0);
        Check.due("deed 2 parts six into two and four", x.next(0, 1, 0), 2);
        Check.due("next, of five that fit", x.next(0, 2, 20), 2);
        Check.due("next, none tells more", x.next(0, 3, 20), 3);
        Check.due("next, all told", x.next(0, 8, 20), -1);
        Check.due("next, none fits", x.next(0, 2, 0), -1);
        x.ask(99);
        Check.due("next, by what they have", x.next(0, 1, 0), 1);
        x.ask(10);
        x.dies(0);
        Check.due("next, not the dead", x.next(0, 1, 0), 2);
        Check.diesTimes(x, 0, 4);
        Check.due("next, one is left", x.next(0, 1, 20), -1);
        CarbonCopies y = having(0, 2, 6, 14, 1, 1);
        y.row(7, 0, 8);
        Check.due("the first of several that are best", y.next(7, 1, 0), 2);
        y.set(7, 0, 96);
        Check.due("next", y.next(7, 1, 1), -1);
        Check.due("next", y.next(7, 1, 2), 1);
        CarbonCopies z = having(254, 254, 254, 252, 252, 252);
        z.row(0, 1, 8);
        Check.due("half of them", z.next(0, 1, 0), 1);
        Check.due("no such tells more: the first", z.next(0, 2, 0), 2);
        Check.due("the last", having(0, 0, 0, 0, 0, 0).next(0, 7, 0), -13);
        z.show(2, 0);
        Check.due("next -1", z.next(8, -1, 99), -11);
        Check.due("next -1", z.next(-1, 1, 0), -11);
        Check.due("next -2", z.next(2, -1, 99), -12);
        Check.due("next -3", z.next(3, -1, 99), -13);
        Check.due("next -4", z.next(0, -1, 99), -14);
        Check.due("next -5 before -6", z.next(0, 9, 0), -15);
        Check.due("next -6 n", z.next(0, 0, 0), -16);
        Check.due("next -6 e", z.next(0, 1, 21), -16);
        Check.due("next -6 e", z.next(0, 1, -1), -16);
        z.row(4, 0, 9);
        Check.due("next -6 n", z.next(4, 9, 0), -16);
        Check.dueAll("refusals", Check.refusals(z), 2, 1, 1, 1, 1, 4, 0);
        Check.due("next of nobody", none().next(0, 1, 20), -1);
        CarbonCopies w = none();
        w.person(0, 0, 1);
        Check.due("the last deed", w.next(0, 7, 0), 7);
        Check.due("none is left", w.next(0, 8, 0), -1);
    }

    private static void unlikes() {
        CarbonCopies x = having(3, 1, 7, 5, 1, 9);
        x.person(0, 0, 1);
        give(x, 1, 0, 0, 0, 0, 0, 255);
        Check.due("unlike", x.unlike(0, 1), 1);
        Check.due("unlike", x.unlike(0, 3), 2);
        Check.due("unlike", x.unlike(3, 0), 2);
        Check.due("unlike", x.unlike(2, 5), 3);
        Check.due("unlike", x.unlike(4, 1), 0);
        Check.due("unlike", x.unlike(15, 10), 8);
        Check.due("unlike", x.unlike(5, 15), 6);
        Check.due("unlike", x.unlike(15, 15), 0);
        Check.diesTimes(x, 0, 6);
        Check.due("unlike, dead ones", x.unlike(5, 15), 6);
        int[] nobody = {-1, 6, 9, 16, 20, 25, -10, -2147483648, 2147483640};
        for (int n : nobody) {
            Check.due("unlike -6", x.unlike(n, 0), -6);
            Check.due("unlike -6", x.unlike(0, n), -6);
        }
        Check.due("refusals", x.status(16), 18);
    }

    private static void odds() {
        CarbonCopies x = having(3, 3, 3, 3, 3, 12);
        Check.due("odd", x.odd(0), 5);
        CarbonCopies y = having(1, 2, 1, 2, 1, 2);
        Check.due("odd, the first of several", y.odd(0), 0);
        y.dies(0);
        Check.due("odd, not the dead", y.odd(0), 2);
        Check.diesTimes(y, 0, 4);
        Check.due("odd of one alone", y.odd(0), 5);
        y.dies(0);
        Check.due("odd -6", y.odd(0), -6);
        Check.due("odd -1", y.odd(1), -1);
        Check.due("odd -1", y.odd(-1), -1);
    }

    private static void mends() {
        CarbonCopies x = having(3, 1, 7, 5, 1, 9);
        int[] rubs = {0, 2, 2, 1, 0, 0, 0, 0};
        for (int deed = 0; deed < 8; deed++) {
            Check.due("mend", x.mend(0, deed), rubs[deed]);
        }
        Check.due("alike", x.mend(0, -1), 5);
        x.dies(0);
        Check.due("mend, not the dead", x.mend(0, 1), 1);
        Check.due("alike", x.mend(0, -1), 4);
        Check.diesTimes(x, 0, 4);
        Check.due("alike, of one alone", x.mend(0, -1), 0);
        x.dies(0);
        Check.due("alike, of none", x.mend(0, -1), 0);
        Check.due("mend -1", x.mend(1, 9), -1);
        Check.due("mend -1", x.mend(-1, -1), -1);
        Check.due("mend -6", x.mend(0, 8), -6);
        Check.due("mend -6", x.mend(0, -2), -6);
    }

    private static void pairs() {
        CarbonCopies x = having(3, 1, 0, 0, 0, 0);
        x.person(1, 0, 1);
        give(x, 1, 1, 3, 0, 0, 0, 0);
        Check.due("paired: deeds, not pairs", x.paired(0, 1, -1), 3);
        int[] whom = {1, 0, -1, -1, -1, -1};
        for (int i = 0; i < 6; i++) {
            Check.due("paired", x.paired(0, 1, i), whom[i]);
        }
        CarbonCopies y = having(1, 1, 3, 3, 0, 0);
        y.person(0, 0, 1);
        give(y, 1, 255, 0, 255, 1, 1, 0);
        Check.due("paired", y.paired(0, 1, -1), 6);
        int[] firstRow = {3, 4, 0, 2, -1, -1};
        for (int i = 0; i < 6; i++) {
            Check.due("paired", y.paired(0, 1, i), firstRow[i]);
        }
        y.dies(1);
        Check.due("paired, not the dead", y.paired(0, 1, -1), 4);
        int[] nobodyFirst = {-1, 3, 2, 4, -1, -1};
        for (int i = 0; i < 6; i++) {
            Check.due("paired", y.paired(0, 1, i), nobodyFirst[i]);
        }
        Check.diesTimes(y, 0, 3);
        Check.due("paired", y.paired(0, 1, -1), 2);
        Check.due("the first that is not dead", y.paired(0, 1, 0), 2);
        Check.due("paired", y.paired(0, 1, 2), -1);
        Check.due("paired -5", y.paired(0, 1, 3), -15);
        Check.due("paired, the other way", y.paired(1, 0, -1), 2);
        Check.due("paired", y.paired(1, 0, 0), -1);
        Check.due("paired", y.paired(1, 0, 1), 3);
        Check.due("paired -5", y.paired(1, 0, 5), -15);
        Check.diesTimes(y, 0, 3);
        Check.due("paired with none", y.paired(1, 0, -1), 0);
        Check.due("paired with none", y.paired(1, 0, 4), -1);
        Check.due("none paired", y.paired(0, 1, -1), 0);
        Check.due("paired -5", y.paired(0, 1, 0), -15);
        Check.due("paired -5", y.paired(1, 0, -2), -15);
        Check.due("paired -1, the same", y.paired(1, 1, -2), -11);
        Check.due("paired -1", y.paired(2, 0, 0), -11);
        Check.due("paired -1", y.paired(0, 2, -1), -11);
        Check.due("paired -1", y.paired(-1, 0, -1), -11);
        Check.dueAll("refusals", Check.refusals(y), 4, 0, 0, 0, 4, 0, 0);
    }

    private static void bearers() {
        CarbonCopies x = new CarbonCopies();
        Check.due("heir -5 before -6", x.heir(8), -5);
        x = having(0, 2, 3, 10, 8, 0);
        Check.due("bear", x.bear(0, 0), 3);
        Check.due("bear", x.bear(0, 1), 4);
        Check.due("bear", x.bear(0, 3), 5);
        Check.due("bear, none has it", x.bear(0, 2), 0);
        x.person(0, 0, 1);
        give(x, 1, 1, 1, 0, 10, 0, 12);
        Check.due("heir", x.heir(0), 0);
        Check.due("heir, the first of several", x.heir(1), 0);
        Check.due("heir", x.heir(2), 1);
        Check.due("heir", x.heir(3), 1);
        Check.due("heir, nobody bears it", x.heir(7), 0);
        x.dies(0);
        Check.due("bear", x.bear(0, 0), 2);
        Check.due("heir", x.heir(0), 0);
        Check.due("heir", x.heir(1), 1);
        x.dies(0);
        Check.due("bear", x.bear(0, 0), 1);
        Check.due("heir", x.heir(0), 1);
        x.dies(0);
        Check.due("bear", x.bear(0, 0), 0);
        Check.due("bear", x.bear(0, 1), 1);
        Check.diesTimes(x, 0, 3);
        Check.due("bear of one all dead", x.bear(0, 3), 0);
        Check.due("bear -1", x.bear(2, 8), -1);
        Check.due("bear -1", x.bear(-1, 0), -1);
        Check.due("bear -6", x.bear(0, 8), -6);
        Check.due("bear -6", x.bear(0, -1), -6);
        Check.due("heir -6", x.heir(8), -6);
        Check.due("heir -6", x.heir(-1), -6);
    }

    private static void straights() {
        CarbonCopies x = new CarbonCopies();
        x.person(0, 0, 10);
        x.person(6, 3, 1);
        x.person(6, 0, 1);
        Check.due("true", x.straight(0, 0), 63);
        Check.due("straight", x.straight(0, 1), 0);
        Check.due("straight, none", x.straight(0, 2), -1);
        x.press(0, 0, 31);
        Check.due("true", x.straight(0, 0), 49);
        Check.due("straight, there and back", x.straight(0, 1), 6);
        Check.due("straight", x.straight(0, 2), 1);
        x.dies(0);
        Check.due("true, dead or not", x.straight(0, 0), 49);
        x.press(1, 0, 99);
        Check.due("true", x.straight(1, 0), 1);
        Check.due("straight", x.straight(1, 1), 16);
        x.press(2, 0, 99);
        Check.due("true", x.straight(2, 0), 7);
        Check.due("straight", x.straight(2, 1), 1);
        Check.due("straight", x.straight(2, 2), 3);
        Check.due("straight -1", x.straight(3, 3), -11);
        Check.due("straight -1", x.straight(-1, 0), -11);
        Check.due("straight -5", x.straight(0, 3), -15);
        Check.due("straight -5", x.straight(0, -1), -15);
        Check.dueAll("refusals", Check.refusals(x), 2, 0, 0, 0, 2, 0, 0);
    }
}
