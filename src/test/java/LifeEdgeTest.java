/** Promises 31 to 36 and what the Terms say of PRESSES, RUBS, DYINGS and told LIVES, at their edges. */
public final class LifeEdgeTest {
    private static final String MIN = "-2147483648";
    private static final String MAX = "2147483647";
    /** PERSON 0 lives, of PERSON 1 only COPY 5, PERSON 2 is all dead. */
    private static final String[] LAND = {"person(4, 0, 1) x3", "dies(1) x5", "dies(2) x6"};
    private static final String[] SIX = {"person(4, 0, 1) x6"};

    public static void main(String[] args) {
        lifeNumbers();
        lastPerson();
        notThePlace();
        lengths();
        lifeGoesOn();
        judgeRefused();
        behinds();
        behindRefused();
        dones();
        doneRefused();
        presses();
        pressRefused();
        rubs();
        rubRefused();
        deaths();
        Check.end("LifeEdgeTest");
    }

    private static void due(String why, long want, String[] land, String... more) {
        Run.due(why, want, Run.join(land, more));
    }

    private static void canBe(String why, String[] land, int v) {
        due(why + ": " + v, -1, land, "ints 0: " + v, "judge(0, 1)");
        due(why + ": " + v, -1, land, "ints 0: 30000, " + v, "judge(0, 2)");
    }

    private static void wrong(String why, String[] land, long v) {
        due(why + ": " + v, 0, land, "ints 0: " + v, "judge(0, 1)");
        due(why + ": " + v, 1, land, "ints 0: 30000, " + v, "judge(0, 2)");
        due(why + ": " + v, -6, land, "ints 0: " + v, "behind(0, 1, 0)");
        due(why + ": " + v, -6, land, "ints 0: " + v, "done(0, 1)");
    }

    private static void lifeNumbers() {
        canBe("a PRESS, the least of all", LAND, 10001);
        wrong("F 0", LAND, 10000);
        wrong("below all", LAND, 9999);
        canBe("F 99", LAND, 10099);
        wrong("D 1, F 0", LAND, 10100);
        canBe("D 7, F 99", LAND, 10799);
        wrong("D 8", LAND, 10801);
        wrong("D 9", LAND, 10999);
        canBe("P 1, of whom one COPY lives", LAND, 11001);
        wrong("P all dead", LAND, 12001);
        wrong("no such P", LAND, 13001);
        wrong("no such P", LAND, 19799);
        canBe("a RUB on a COPY, D 7", LAND, 20107);
        wrong("D 8", LAND, 20108);
        wrong("D 99", LAND, 20199);
        canBe("J 5", LAND, 20500);
        wrong("J 6", LAND, 20600);
        wrong("J 9", LAND, 20900);
        canBe("J, not dead", LAND, 21507);
        wrong("J dead", LAND, 21400);
        wrong("J of one who is all dead", LAND, 22500);
        wrong("no such P", LAND, 23500);
        wrong("no such P", LAND, 29507);
        due("a RUB on COPY 0, D 0, the least", -1, LAND, "ints 0: 20000", "judge(0, 1)");
        canBe("DYING", LAND, 30000);
        canBe("DYING of the last COPY", LAND, 30001);
        wrong("DYING of one who is all dead", LAND, 30002);
        wrong("no such P", LAND, 30003);
        wrong("no such P", LAND, 30006);
        wrong("no such P", LAND, 30100);
        wrong("above all", LAND, 31000);
        wrong("above all", LAND, 40001);
        wrong("0", LAND, 0);
        wrong("below 0", LAND, -10001);
        wrong("the least int", LAND, Integer.MIN_VALUE);
        wrong("the greatest int", LAND, Integer.MAX_VALUE);
        Run.due("no PERSONS", 0, "ints 0: 10001", "judge(0, 1)");
        Run.due("no PERSONS", 0, "ints 0: 20000", "judge(0, 1)");
        Run.due("no PERSONS", 0, "ints 0: 30000", "judge(0, 1)");
    }

    private static void lastPerson() {
        canBe("P 5", SIX, 15001);
        canBe("P 5, the greatest PRESS", SIX, 15799);
        wrong("P 6", SIX, 16001);
        canBe("P 5", SIX, 25000);
        canBe("P 5, the greatest RUB", SIX, 25507);
        wrong("P 6", SIX, 26000);
        canBe("P 5, the greatest of all", SIX, 30005);
        wrong("P 6", SIX, 30006);
        due("DYING of P 5 in it", 6, SIX, "ints 0: 30005, 30005, 30005, 30005, 30005, 30005, 15001", "judge(0, 7)");
        due("DYING of P 5 in it", 1, SIX, "ints 0: 30005, 25000", "judge(0, 2)");
        wrong("P 5 all dead", Run.join(SIX, "dies(5) x6"), 15001);
        wrong("P 5 all dead", Run.join(SIX, "dies(5) x6"), 30005);
        wrong("P 5, of five PERSONS", new String[] {"person(4, 0, 1) x5"}, 15001);
        wrong("J of P 5 dead", Run.join(SIX, "dies(5) x3"), 25200);
        canBe("J of P 5 not dead", Run.join(SIX, "dies(5) x3"), 25300);
        due("P 5 in truth", 9, SIX, "ints 0: 15209", "done(0, 1)", "strength(5, 0, 2)");
        due("P 5 in truth, rubbed", 1, SIX, "ints 0: 25300", "done(0, 1)", "copyOf(5, 3, 0)");
        due("P 5 in truth, dying", 1, SIX, "ints 0: 30005", "done(0, 1)", "personOf(5, 3)");
        due("the digits of P, not of D", 99, SIX, "ints 0: 11799", "done(0, 1)", "strength(1, 0, 7)");
    }

    private static void notThePlace() {
        String[] life = Run.join(LAND, "ints 0: 10001, 20100, 0, 30000, 0");
        due("WRONG: the first that can't be", 2, life, "judge(0, 5)");
        due("WRONG: only of the first n", -1, life, "judge(0, 2)");
        due("WRONG: the last of n", 2, life, "judge(0, 3)");
        due("WRONG, the first of all", 0, LAND, "ints 0: 0, 10001", "judge(0, 2)");
        due("longs by their lowest 32 bits", -1, LAND, "row(0, 3, 1)", "set(0, 0, " + ((9L << 32) + 10001) + ")",
            "judge(0, 1)");
        due("longs by all lowest 32 bits", 0, LAND, "row(0, 3, 1)", "set(0, 0, " + ((1L << 31) + 10001) + ")",
            "judge(0, 1)");
        due("longs by their lowest 32 bits, behind", 6, LAND, "row(0, 3, 1)",
            "set(0, 0, " + ((9L << 32) + 10001) + ")", "behind(0, 1, 0)");
        due("longs by their lowest 32 bits, done", 1, LAND, "row(0, 3, 1)", "set(0, 0, " + ((9L << 32) + 10001) + ")",
            "done(0, 1)", "strength(0, 5, 0)");
        due("shorts", -1, LAND, "row(0, 1, 1)", "set(0, 0, 30000)", "judge(0, 1)");
        due("bytes tell none", 0, LAND, "row(0, 0, 1)", "set(0, 0, 10001)", "judge(0, 1)");
    }

    private static String rubs(int n) {
        StringBuilder all = new StringBuilder("ints 0: 20501");
        for (int i = 1; i < n; i++) {
            all.append(", 20501");
        }
        return all.toString();
    }

    private static void lengths() {
        due("n 0: a LIFE without anything", -1, LAND, "row(0, 2, 0)", "judge(0, 0)");
        due("n 0", 11, LAND, "row(0, 2, 0)", "behind(0, 0, 1)");
        due("n 0", 11, LAND, "row(0, 2, 0)", "done(0, 0)");
        due("n 40", -1, LAND, rubs(40), "judge(0, 40)");
        due("n 40", 40, LAND, rubs(40), "behind(0, 40, 2)");
        due("n 40", 40, LAND, rubs(40), "done(0, 40)", "copyOf(0, 5, 0)");
        due("n 40, the last can't be", 39, LAND, rubs(40), "set(0, 39, 0)", "judge(0, 40)");
        due("n 41", -16, LAND, rubs(41), "judge(0, 41)");
        due("n 41", -6, LAND, rubs(41), "behind(0, 41, 2)");
        due("n 41", -6, LAND, rubs(41), "done(0, 41)");
        due("SHELF 7", -1, LAND, "row(7, 2, 0)", "judge(7, 0)");
    }

    private static void lifeGoesOn() {
        due("who died in it is dead", 1, LAND, "ints 0: 30000, 20000", "judge(0, 2)");
        due("who is OUT by then isn't", -1, LAND, "ints 0: 30000, 20100", "judge(0, 2)");
        due("who isn't all dead yet can be pressed", -1, LAND,
            "ints 0: 30000, 30000, 30000, 30000, 30000, 10001", "judge(0, 6)");
        due("who is all dead by then can't be pressed", 6, LAND,
            "ints 0: 30000, 30000, 30000, 30000, 30000, 30000, 10001", "judge(0, 7)");
        due("who is all dead by then can't die", 6, LAND,
            "ints 0: 30000, 30000, 30000, 30000, 30000, 30000, 30000", "judge(0, 7)");
        due("who is all dead by then can't be rubbed", 1, LAND, "ints 0: 30001, 21500", "judge(0, 2)");
        due("another may go on", -1, LAND, "ints 0: 30001, 10001", "judge(0, 2)");
        due("judged again as things stand: nothing is changed", -1, LAND, "ints 0: 30001", "judge(0, 1)", "judge(0, 1)");
        due("what comes of another told LIFE is not kept", -1, LAND, "ints 0: 30001", "behind(0, 1, 0)", "judge(0, 1)");
    }

    private static void judgeRefused() {
        Run.allRefused("no such SHELF", -11, "judge(-1, 0)", "judge(8, 0)", "judge(" + MIN + ", 0)");
        Run.allRefused("a PERSON where a ROW is wanted", -12, "judge(1, 0)", "judge(7, 0)");
        Run.refused("NOTHING", -13, "judge(2, 0)");
        Run.allRefused("n below 0", -14, "judge(0, -1)", "judge(5, " + MIN + ")");
        Run.allRefused("fewer elements", -15, "judge(0, 4)", "judge(5, 42)", "judge(5, " + MAX + ")");
        Run.allRefused("n above 40", -16, "judge(5, 41)", "judge(4, 160)");
        Run.refused("-11 before -14", -11, "judge(8, -1)");
        Run.refused("-11 before -16", -11, "judge(8, 41)");
        Run.refused("-12 before -14", -12, "judge(1, -1)");
        Run.refused("-12 before -16", -12, "judge(1, 41)");
        Run.refused("-13 before -14", -13, "judge(2, -1)");
        Run.refused("-13 before -15", -13, "judge(2, 1)");
        Run.refused("-15 before -16", -15, "judge(0, 41)");
        Run.due("WRONG is no refusal", 0, "ints 0: 0", "judge(0, 1)", "status(16)");
    }

    private static void behinds() {
        String[] life = Run.join(LAND, "press(1, 0, 9)", "ints 0: 10005, 20500, 30001, 30000, 10102");
        int[] strengths = {9, 39, 34, 34, 34, 44};
        int[] dead = {11, 11, 11, 12, 13, 13};
        int[] smears = {0, 0, 1, 1, 1, 1};
        for (int n = 0; n <= 5; n++) {
            due("BEHIND it: all STRENGTHS", strengths[n], life, "behind(0, " + n + ", 0)");
            due("BEHIND it: how many are dead", dead[n], life, "behind(0, " + n + ", 1)");
            due("BEHIND it: all SMEARS", smears[n], life, "behind(0, " + n + ", 2)");
            due("in truth: how many are dead", dead[n], life, "done(0, " + n + ")");
            due("in truth: all STRENGTHS", strengths[n], life, "done(0, " + n + ")", "status(3)");
            due("in truth: all SMEARS", smears[n], life, "done(0, " + n + ")", "status(4)");
        }
        due("99 at most", 6 * 99 + 9, LAND, "press(1, 0, 9)", "ints 0: 10098, 10003", "behind(0, 2, 0)");
        due("99 SMEARS at most", 99, LAND, "rub(0, 5, 1) x98", rubs(2), "behind(0, 2, 2)");
        due("nothing is changed: STRENGTHS", 9, life, "behind(0, 5, 0)", "status(3)");
        due("nothing is changed: who is dead", 11, life, "behind(0, 5, 1)", "status(1)");
        due("nothing is changed: SMEARS", 0, life, "behind(0, 5, 2)", "status(4)");
        due("nothing is changed: THE IMAGE", 3, life, "image()", "behind(0, 5, 2)", "restore()");
        due("behind no PERSONS", 0, new String[] {"row(0, 2, 0)"}, "behind(0, 0, 0)");
    }

    private static void behindRefused() {
        Run.allRefused("no such SHELF", -1, "behind(-1, 0, 0)", "behind(8, 0, 0)", "behind(" + MAX + ", 0, 0)");
        Run.allRefused("a PERSON where a ROW is wanted", -2, "behind(1, 0, 0)", "behind(7, 0, 2)");
        Run.refused("NOTHING", -3, "behind(2, 0, 0)");
        Run.allRefused("n below 0", -4, "behind(0, -1, 0)", "behind(5, " + MIN + ", 0)");
        Run.allRefused("fewer elements", -5, "behind(0, 4, 0)", "behind(5, 42, 0)", "behind(5, " + MAX + ", 0)");
        Run.allRefused("another what", -5, "behind(0, 0, -1)", "behind(0, 0, 3)", "behind(0, 0, " + MIN + ")");
        Run.allRefused("n above 40", -6, "behind(5, 41, 0)", "behind(4, 160, 2)");
        Run.allRefused("it is WRONG", -6, "behind(0, 1, 0)", "behind(0, 3, 1)", "behind(5, 40, 2)");
        Run.refused("-1 before -4", -1, "behind(8, -1, 0)");
        Run.refused("-1 before -5", -1, "behind(8, 0, 3)");
        Run.refused("-2 before -4", -2, "behind(1, -1, 0)");
        Run.refused("-2 before -5", -2, "behind(1, 0, 3)");
        Run.refused("-3 before -4", -3, "behind(2, -1, 0)");
        Run.refused("-3 before -5", -3, "behind(2, 1, 3)");
        Run.refused("-4 before -5", -4, "behind(0, -1, 3)");
        Run.refused("-5 before -6, n above 40", -5, "behind(0, 41, 0)");
        Run.refused("-5 before -6, what and n above 40", -5, "behind(5, 41, 3)");
        Run.refused("-5 before -6, what and WRONG", -5, "behind(0, 1, 3)");
    }

    private static void dones() {
        String[] bad = Run.join(LAND, "ints 0: 10005, 20500, 30000, 30002");
        due("it can't be: nothing of it is", -6, bad, "done(0, 4)");
        due("it can't be: nothing of it is", 0, bad, "done(0, 4)", "status(3)");
        due("it can't be: nothing of it is", 0, bad, "done(0, 4)", "status(4)");
        due("it can't be: nothing of it is", 11, bad, "done(0, 4)", "status(1)");
        due("as far as it can be", 12, bad, "done(0, 3)");
        due("in truth: a PRESS, the least of all", 1, LAND, "ints 0: 10001", "done(0, 1)", "strength(0, 0, 0)");
        due("in truth: a RUB, the least of all", 1, LAND, "ints 0: 20000", "done(0, 1)", "copyOf(0, 0, 0)");
        due("in truth: DYING, the least of all", 1, LAND, "ints 0: 30000", "done(0, 1)", "personOf(0, 3)");
        due("in truth: DRIFT too", 5, LAND, "ints 0: 10050", "done(0, 1)", "drift(0, 5)");
        due("in truth: as things stand then", -6, LAND, "ints 0: 30001", "done(0, 1)", "done(0, 1)");
        due("all are dead", 18, LAND, "ints 0: 30001, 30000, 30000, 30000, 30000, 30000, 30000", "done(0, 7)");
        due("nobody is there", 0, new String[] {"row(0, 2, 0)"}, "done(0, 0)");
    }

    private static void doneRefused() {
        Run.allRefused("no such SHELF", -1, "done(-1, 0)", "done(8, 0)", "done(" + MIN + ", 0)");
        Run.allRefused("a PERSON where a ROW is wanted", -2, "done(1, 0)", "done(7, 0)");
        Run.refused("NOTHING", -3, "done(2, 0)");
        Run.allRefused("n below 0", -4, "done(0, -1)", "done(5, " + MIN + ")");
        Run.allRefused("fewer elements", -5, "done(0, 4)", "done(5, 42)", "done(5, " + MAX + ")");
        Run.allRefused("n above 40", -6, "done(5, 41)", "done(4, 160)");
        Run.allRefused("it is WRONG", -6, "done(0, 1)", "done(5, 40)");
        Run.refused("-1 before -4", -1, "done(8, -1)");
        Run.refused("-1 before -6", -1, "done(8, 41)");
        Run.refused("-2 before -4", -2, "done(1, -1)");
        Run.refused("-2 before -6", -2, "done(1, 41)");
        Run.refused("-3 before -4", -3, "done(2, -1)");
        Run.refused("-3 before -5", -3, "done(2, 1)");
        Run.refused("-5 before -6", -5, "done(0, 41)");
    }

    private static void presses() {
        String[] one = {"person(0, 0, 10)"};
        int[] forces = {1, 10, 11, 20, 21, 30, 31, 40, 41, 50, 51, 99};
        int[] many = {1, 1, 2, 2, 3, 3, 4, 4, 5, 5, 6, 6};
        for (int i = 0; i < forces.length; i++) {
            due("how many COPIES got something", many[i], one, "press(0, 0, " + forces[i] + ")");
        }
        due("who is OUT gets f", 1, one, "press(0, 0, 1)", "strength(0, 0, 0)");
        due("who is OUT gets f", 99, one, "press(0, 7, 99)", "strength(0, 0, 7)");
        due("each below less LOSS", 49, one, "press(0, 7, 99)", "strength(0, 5, 7)");
        due("0 at least", 0, one, "press(0, 7, 5)", "strength(0, 1, 7)");
        due("once nothing, nothing below", 0, new String[] {"person(3, 0, 20)"}, "press(0, 0, 21)", "strength(0, 5, 0)");
        due("how many, though none gets more than 99", 6, one, "press(0, 0, 99) x3");
        due("of the lowest alone", 1, one, "dies(0) x5", "press(0, 0, 99)");
        due("none of the dead", 0, one, "dies(0) x5", "press(0, 0, 99)", "strength(0, 4, 0)");
        due("as if he were the first", 99, one, "dies(0) x5", "press(0, 0, 99)", "strength(0, 5, 0)");
        due("DEED 7", 6, one, "press(0, 7, 99)");
    }

    private static void pressRefused() {
        Run.allRefused("no such PERSON", -1, "press(-1, 0, 1)", "press(2, 0, 1)", "press(6, 0, 1)",
            "press(" + MIN + ", 0, 1)");
        Run.allRefused("no such DEED", -6, "press(0, -1, 1)", "press(0, 8, 1)", "press(0, " + MAX + ", 1)");
        Run.allRefused("f not 1 to 99", -6, "press(0, 0, 0)", "press(0, 0, 100)", "press(0, 0, -1)",
            "press(0, 0, " + MAX + ")", "press(0, 0, " + MIN + ")");
        Run.refused("-1 before -6", -1, "press(2, 8, 0)");
        Run.refusedOn(new String[] {"person(0, 0, 1)", "dies(0) x6"}, "all are dead", -6, "press(0, 0, 1)");
    }

    private static void rubs() {
        String[] one = {"person(0, 0, 10)", "press(0, 0, 99)", "press(0, 7, 60)"};
        due("what its STRENGTH was", 99, one, "rub(0, 0, 0)");
        due("what its STRENGTH was, COPY 5, DEED 7", 10, one, "rub(0, 5, 7)");
        due("what its STRENGTH was: 0", 0, one, "rub(0, 5, 7)", "rub(0, 5, 7)");
        due("its STRENGTH of it is 0", 0, one, "rub(0, 5, 7)", "strength(0, 5, 7)");
        due("of that COPY alone", 20, one, "rub(0, 5, 7)", "strength(0, 4, 7)");
        due("of that DEED alone", 49, one, "rub(0, 5, 7)", "strength(0, 5, 0)");
        due("it counts also where STRENGTH was 0", 1, one, "rub(0, 5, 1)", "copyOf(0, 5, 0)");
        due("99 SMEARS at most, and it is rubbed", 99, one, "rub(0, 0, 1) x99", "rub(0, 0, 0)");
        due("99 SMEARS at most, and it is rubbed", 0, one, "rub(0, 0, 1) x99", "rub(0, 0, 0)", "strength(0, 0, 0)");
        due("who is OUT", 89, one, "dies(0)", "rub(0, 1, 0)");
        due("the lowest alone", 49, one, "dies(0) x5", "rub(0, 5, 0)");
    }

    private static void rubRefused() {
        Run.allRefused("no such PERSON", -1, "rub(-1, 3, 0)", "rub(2, 3, 0)", "rub(6, 3, 0)", "rub(" + MAX + ", 3, 0)");
        Run.allRefused("no such COPY", -6, "rub(0, -1, 0)", "rub(0, 6, 0)", "rub(0, " + MIN + ", 0)");
        Run.allRefused("a dead COPY", -6, "rub(0, 0, 0)", "rub(0, 1, 0)");
        Run.allRefused("no such DEED", -6, "rub(0, 3, -1)", "rub(0, 3, 8)", "rub(0, 3, " + MAX + ")");
        Run.refused("-1 before -6", -1, "rub(2, 6, 8)");
        Run.refusedOn(new String[] {"person(0, 0, 1)", "dies(0) x6"}, "a dead COPY, all are", -6, "rub(0, 5, 0)");
        Run.refusedOn(new String[] {"person(0, 0, 1)", "dies(0) x6"}, "a dead COPY, OUT is none", -6, "rub(0, 6, 0)");
    }

    private static void deaths() {
        for (int i = 1; i <= 6; i++) {
            due("OUT is 1 more", i, SIX, "dies(5) x" + i);
        }
        due("only his", 0, SIX, "dies(5) x6", "personOf(4, 3)");
        due("all are dead", 36, SIX, "dies(0) x6", "dies(1) x6", "dies(2) x6", "dies(3) x6", "dies(4) x6", "dies(5) x6",
            "status(1)");
        Run.allRefused("no such PERSON", -1, "dies(-1)", "dies(2)", "dies(6)", "dies(" + MIN + ")", "dies(" + MAX + ")");
        Run.refusedOn(new String[] {"person(0, 0, 1)", "dies(0) x6"}, "all are dead", -6, "dies(0)");
    }
}
