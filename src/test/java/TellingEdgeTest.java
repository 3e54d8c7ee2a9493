/** Promises 18 to 21 and 24 to 30 and what the Terms say of what comes of it, at their edges. */
public final class TellingEdgeTest {
    private static final String MIN = "-2147483648";
    private static final String MAX = "2147483647";
    /** 50, 40, 30, 20, 10, 0 of DEED 1: as LEAST is 10, COPY 4 has just enough. */
    private static final String[] FALLING = {"person(0, 0, 10)", "press(0, 1, 50)"};

    public static void main(String[] args) {
        haves();
        alls();
        forces();
        justs();
        forcesRefused();
        gots();
        unlikes();
        odds();
        mends();
        paired();
        pairedOrder();
        pairedRefused();
        bears();
        heirs();
        straights();
        Check.end("TellingEdgeTest");
    }

    private static void due(String why, long want, String[] land, String... more) {
        Run.due(why, want, Run.join(land, more));
    }

    private static String[] both(int[] sets, int... others) {
        return Run.join(Run.having(0, sets), Run.having(1, others));
    }

    private static int[] sets(int... sets) {
        return sets;
    }

    private static void haves() {
        String[] land = Run.having(0, 1, 0, 2, 0, 2, 128);
        due("HAVE, COPY 0 the first bit", 1, land, "have(0, 0)");
        due("HAVE, COPY 5 the last bit", 32, land, "have(0, 7)");
        due("HAVE, more than one", 20, land, "have(0, 1)");
        due("HAVE, nobody", 0, land, "have(0, 2)");
        due("HAVE, not the dead", 16, land, "dies(0) x3", "have(0, 1)");
        due("HAVE, all dead", 0, land, "dies(0) x6", "have(0, 7)");
        due("HAVE, everybody", 63, Run.having(0, 9, 9, 9, 9, 9, 9), "have(0, 3)");
        due("HAVE, LEAST at least", 31, FALLING, "have(0, 1)");
        due("HAVE, LEAST at least", 15, FALLING, "ask(11)", "have(0, 1)");
        Run.allRefused("no such PERSON", -1, "have(-1, 0)", "have(2, 0)", "have(" + MIN + ", 0)", "have(" + MAX + ", 0)");
        Run.allRefused("no such DEED", -6, "have(0, -1)", "have(0, 8)", "have(1, " + MIN + ")");
        Run.refused("-1 before -6", -1, "have(2, 8)");
    }

    private static void alls() {
        due("ALL, of none: all 8", 255, Run.having(0, 0, 0, 0, 0, 0, 0), "dies(0) x6", "all(0)");
        due("ALL, none they all HAVE", 0, Run.having(0, 0, 0, 0, 0, 0, 0), "all(0)");
        due("ALL, everything", 255, Run.having(0, 255, 255, 255, 255, 255, 255), "all(0)");
        due("ALL, the first and the last DEED", 129, Run.having(0, 133, 131, 145, 129, 255, 193), "all(0)");
        due("ALL, not asked of the dead", 2, Run.having(0, 0, 2, 2, 2, 2, 2), "dies(0)", "all(0)");
        due("ALL, asked of the uppermost", 0, Run.having(0, 0, 2, 2, 2, 2, 2), "all(0)");
        due("ALL, asked of the lowest", 0, Run.having(0, 2, 2, 2, 2, 2, 0), "all(0)");
        due("ALL of one alone", 64, Run.having(0, 0, 0, 0, 0, 0, 64), "dies(0) x5", "all(0)");
        due("ALL, LEAST at least", 1, new String[] {"person(4, 0, 1)", "press(0, 0, 10)", "press(0, 1, 9)"}, "all(0)");
        Run.allRefused("no such PERSON", -1, "all(-1)", "all(2)", "all(6)", "all(" + MIN + ")", "all(" + MAX + ")");
    }

    private static void forces() {
        String[] one = {"person(0, 0, 10)"};
        due("FORCE, the least f", 10, one, "force(0, 0, 0, 0)");
        due("FORCE down to the last", 60, one, "force(0, 7, 5, 0)");
        due("FORCE 1, the least", 1, one, "ask(1)", "force(0, 0, 0, 0)");
        due("FORCE 1 where all HAVE it", 1, FALLING, "force(0, 1, 4, 0)");
        due("FORCE 99, the greatest", 99, one, "ask(49)", "force(0, 0, 5, 0)");
        due("FORCE beyond 99: NONE", -1, one, "ask(50)", "force(0, 0, 5, 0)");
        due("FORCE 99 for the uppermost", 99, one, "ask(99)", "force(0, 0, 0, 0)");
        due("FORCE by STRENGTHS as they are ahead", 45, FALLING, "ask(45)", "rub(0, 0, 1)", "force(0, 1, 0, 0)");
        due("FORCE by STRENGTHS as they are ahead", 60, FALLING, "force(0, 1, 5, 0)");
        due("FORCE by STRENGTHS as they are ahead", 6, FALLING, "ask(16)", "dies(0) x4", "force(0, 1, 4, 0)");
        due("FORCE, all from OUT to k", 10, FALLING, "rub(0, 0, 1)", "force(0, 1, 3, 0)");
        due("FORCE, not of the dead", 1, FALLING, "rub(0, 0, 1)", "dies(0)", "force(0, 1, 3, 0)");
        due("FORCE, sheets from the one that is OUT", 20, one, "dies(0) x4", "force(0, 0, 5, 0)");
        due("FORCE of the lowest alone", 10, one, "dies(0) x5", "force(0, 0, 5, 0)");
        due("FORCE of another DEED", 10, FALLING, "force(0, 0, 0, 0)");
    }

    private static void justs() {
        String[] one = {"person(0, 0, 1)"};
        due("JUST, none below k", 10, one, "force(0, 0, 0, 1)");
        due("JUST down to the last: none is below", 15, one, "force(0, 0, 5, 1)");
        due("JUST 1, the least", 1, one, "ask(1)", "force(0, 0, 0, 1)");
        due("JUST 99, the greatest", 99, new String[] {"person(0, 0, 20)"}, "ask(39)", "force(0, 0, 3, 1)");
        due("JUST beyond 99: NONE", -1, new String[] {"person(0, 0, 20)"}, "ask(40)", "force(0, 0, 3, 1)");
        due("JUST, that below gets as much: NONE", -1, new String[] {"person(1, 0, 10)"}, "force(0, 0, 0, 1)");
        due("JUST, that below lacks 1", 10, new String[] {"person(5, 1, 1)"}, "force(0, 0, 0, 1)");
        due("JUST, that below HAS it already: NONE", -1, FALLING, "force(0, 1, 3, 1)");
        String[] lowest = {"person(0, 0, 10)", "press(0, 0, 99)", "rub(0, 0, 0)", "rub(0, 1, 0)", "rub(0, 2, 0)",
            "rub(0, 3, 0)", "rub(0, 4, 0)"};
        due("JUST, the lowest alone HAS it already: NONE", -1, lowest, "force(0, 0, 3, 1)");
        due("JUST, the lowest alone HAS it no more", 40, lowest, "rub(0, 5, 0)", "force(0, 0, 3, 1)");
        due("JUST, one that is dead may HAVE it", 10, Run.having(0, 1, 0, 0, 0, 0, 0), "dies(0) x5",
            "force(0, 0, 5, 1)");
        due("JUST, they all HAVE it and none below", 1, FALLING, "force(0, 1, 4, 1)");
    }

    private static void forcesRefused() {
        Run.allRefused("no such PERSON", -11, "force(-1, 0, 3, 0)", "force(2, 0, 3, 0)", "force(" + MIN + ", 0, 3, 1)");
        Run.allRefused("another what", -15, "force(0, 0, 3, -1)", "force(0, 0, 3, 2)", "force(0, 0, 3, " + MAX + ")");
        Run.allRefused("no such DEED", -16, "force(0, -1, 3, 0)", "force(0, 8, 3, 1)", "force(0, " + MIN + ", 3, 0)");
        Run.allRefused("no such COPY", -16, "force(0, 0, -1, 0)", "force(0, 0, 6, 1)", "force(0, 0, " + MAX + ", 0)");
        Run.allRefused("a dead COPY", -16, "force(0, 0, 0, 0)", "force(0, 0, 1, 1)");
        Run.refused("-11 before -15", -11, "force(2, 0, 3, 2)");
        Run.refused("-11 before -16", -11, "force(2, 8, 6, 0)");
        Run.refused("-15 before -16", -15, "force(0, 8, 3, 2)");
        Run.refused("-15 before -16", -15, "force(0, 0, 0, -1)");
        String[] dead = {"person(0, 0, 1)", "dies(0) x6"};
        Run.refusedOn(dead, "a dead COPY, all are", -16, "force(0, 0, 5, 0)");
        Run.refusedOn(dead, "a dead COPY, OUT is none", -16, "force(0, 0, 6, 1)");
    }

    private static void gots() {
        String[] one = {"person(3, 0, 8)"};
        due("GOT by 1", 1, one, "got(0, 0, 1)");
        due("GOT by 99", 99, one, "got(0, 0, 99)");
        due("GOT by 99, the lowest", 99 - 60, one, "got(0, 5, 99)");
        due("GOT, 1 more than is lost", 1, one, "got(0, 5, 61)");
        due("GOT, as much as is lost: 0", 0, one, "got(0, 5, 60)");
        due("GOT, 0 at least", 0, one, "got(0, 5, 59)");
        due("GOT, 0 at least", 0, one, "got(0, 1, 9)");
        due("GOT of who is OUT", 7, one, "dies(0) x5", "got(0, 5, 7)");
        due("GOT whatever STRENGTHS there are", 99, new String[] {"person(4, 0, 1)", "press(0, 0, 99)"}, "got(0, 5, 99)");
        Run.allRefused("no such PERSON", -1, "got(-1, 3, 1)", "got(2, 3, 1)", "got(" + MAX + ", 3, 1)");
        Run.allRefused("no such COPY", -6, "got(0, -1, 1)", "got(0, 6, 1)", "got(0, " + MIN + ", 1)");
        Run.allRefused("a dead COPY", -6, "got(0, 0, 1)", "got(0, 1, 1)");
        Run.allRefused("f not 1 to 99", -6, "got(0, 3, 0)", "got(0, 3, 100)", "got(0, 3, -1)", "got(0, 3, " + MAX + ")");
        Run.refused("-1 before -6", -1, "got(2, 6, 0)");
        Run.refusedOn(new String[] {"person(0, 0, 1)", "dies(0) x6"}, "a dead COPY, all are", -6, "got(0, 5, 1)");
    }

    private static void unlikes() {
        String[] land = Run.join(new String[] {"person(0, 0, 1) x4"}, lastTwo());
        due("UNLIKE in none", 0, land, "unlike(0, 5)");
        due("UNLIKE a COPY and itself", 0, land, "unlike(50, 50)");
        due("UNLIKE in all 8", 8, land, "unlike(0, 50)");
        due("UNLIKE in one, the first DEED", 1, land, "unlike(50, 51)");
        due("UNLIKE in one, the last DEED", 1, land, "unlike(50, 55)");
        due("UNLIKE, the other way", 1, land, "unlike(55, 50)");
        due("UNLIKE of the last PERSON and the one before", 7, land, "unlike(53, 45)");
        due("UNLIKE of the dead", 8, land, "dies(0) x6", "dies(5) x6", "unlike(0, 50)");
        due("UNLIKE, LEAST at least", 1, FALLING, "unlike(4, 5)");
        due("UNLIKE, LEAST at least", 0, FALLING, "ask(11)", "unlike(4, 5)");
        String[] none = {"-1", "6", "7", "9", "16", "20", "60", "-10", MIN, MAX};
        for (String code : none) {
            Run.refused("none such", -6, "unlike(" + code + ", 0)");
            Run.refused("none such", -6, "unlike(15, " + code + ")");
        }
        Run.refused("none such, either", -6, "unlike(6, 16)");
        Run.refusedOn(new String[0], "none such, no PERSONS", -6, "unlike(0, 0)");
    }

    /** PERSONS 4 and 5 behind four who have nothing. */
    private static String[] lastTwo() {
        return Run.join(Run.having(4, 0, 0, 0, 0, 0, 1), Run.having(5, 255, 254, 255, 255, 254, 127));
    }

    private static void odds() {
        due("ODD, the lowest", 5, Run.having(0, 255, 255, 255, 255, 255, 0), "odd(0)");
        due("ODD, the uppermost", 0, Run.having(0, 0, 255, 255, 255, 255, 255), "odd(0)");
        due("ODD, of several the first", 0, Run.having(0, 3, 3, 3, 3, 3, 3), "odd(0)");
        due("ODD, of several the first", 1, Run.having(0, 0, 1, 0, 1, 0, 0), "odd(0)");
        due("ODD, by all others together", 2, Run.having(0, 0, 1, 6, 1, 0, 0), "odd(0)");
        due("ODD, not the dead", 2, Run.having(0, 255, 255, 0, 0, 0, 0), "dies(0) x2", "odd(0)");
        due("ODD, not against the dead", 5, Run.having(0, 1, 1, 0, 0, 0, 1), "dies(0) x2", "odd(0)");
        due("ODD of one alone is that one", 5, Run.having(0, 0, 0, 0, 0, 0, 9), "dies(0) x5", "odd(0)");
        due("ODD of two: the first", 4, Run.having(0, 0, 0, 0, 0, 0, 9), "dies(0) x4", "odd(0)");
        due("ODD, LEAST at least", 5, FALLING, "odd(0)");
        due("ODD, LEAST at least", 0, FALLING, "ask(51)", "odd(0)");
        Run.allRefused("no such PERSON", -1, "odd(-1)", "odd(2)", "odd(" + MIN + ")", "odd(" + MAX + ")");
        Run.refusedOn(new String[] {"person(0, 0, 1)", "dies(0) x6"}, "all are dead", -6, "odd(0)");
    }

    private static void mends() {
        String[] land = Run.having(0, 129, 129, 129, 1, 129, 131);
        due("MEND is 0 if all HAVE the DEED", 0, land, "mend(0, 0)");
        due("MEND is 0 if none HAS it", 0, land, "mend(0, 2)");
        due("MEND, one HAS it", 1, land, "mend(0, 1)");
        due("MEND, all but one HAVE it", 5, land, "mend(0, 7)");
        due("MEND, not of the dead", 2, land, "dies(0) x3", "mend(0, 7)");
        due("MEND, they all HAVE it who are not dead", 0, land, "dies(0) x4", "mend(0, 7)");
        due("MEND of one alone", 0, land, "dies(0) x5", "mend(0, 1)");
        due("MEND of none", 0, land, "dies(0) x6", "mend(0, 1)");
        due("ALIKE: of all DEEDS together", 6, land, "mend(0, -1)");
        due("ALIKE, the first DEED", 1, Run.having(0, 1, 0, 0, 0, 0, 0), "mend(0, -1)");
        due("ALIKE, the last DEED", 1, Run.having(0, 128, 0, 0, 0, 0, 0), "mend(0, -1)");
        due("ALIKE, at most", 40, Run.having(0, 255, 255, 255, 255, 255, 0), "mend(0, -1)");
        due("ALIKE of those who are", 0, Run.having(0, 255, 255, 255, 255, 255, 255), "mend(0, -1)");
        due("ALIKE of none", 0, land, "dies(0) x6", "mend(0, -1)");
        due("MEND, LEAST at least", 5, FALLING, "mend(0, 1)");
        due("MEND, LEAST at least", 4, FALLING, "ask(11)", "mend(0, 1)");
        Run.allRefused("no such PERSON", -1, "mend(-1, 0)", "mend(2, 0)", "mend(2, -1)", "mend(" + MAX + ", 0)");
        Run.allRefused("no such DEED", -6, "mend(0, -2)", "mend(0, 8)", "mend(0, " + MIN + ")", "mend(0, " + MAX + ")");
        Run.refused("-1 before -6", -1, "mend(2, 8)");
    }

    private static void pairs(String why, String[] land, int most, int... whom) {
        due("PAIRED, " + why, most, land, "paired(0, 1, -1)");
        for (int i = 0; i < whom.length; i++) {
            due("PAIRED, " + why, whom[i], land, "paired(0, 1, " + i + ")");
        }
        Run.refusedOn(land, "PAIRED, " + why + ": no such i", -15, "paired(0, 1, " + whom.length + ")");
    }

    private static void paired() {
        pairs("none HAS anything", both(sets(0, 0, 0, 0, 0, 0), 0, 0, 0, 0, 0, 0), 0, -1, -1, -1, -1, -1, -1);
        pairs("all HAVE everything", both(sets(255, 255, 255, 255, 255, 255), 255, 255, 255, 255, 255, 255), 48, 0, 1, 2,
            3, 4, 5);
        pairs("nothing both HAVE", both(sets(15, 15, 15, 15, 15, 15), 240, 240, 240, 240, 240, 240), 0, -1, -1, -1, -1,
            -1, -1);
        pairs("the first with the last", both(sets(3, 0, 0, 0, 0, 0), 0, 0, 0, 0, 0, 3), 2, 5, -1, -1, -1, -1, -1);
        pairs("the last with the first", both(sets(0, 0, 0, 0, 0, 3), 3, 0, 0, 0, 0, 0), 2, -1, -1, -1, -1, -1, 0);
        pairs("DEEDS, not pairs", both(sets(3, 1, 0, 0, 0, 0), 1, 3, 0, 0, 0, 0), 3, 1, 0, -1, -1, -1, -1);
        pairs("most together, not of each", both(sets(7, 7, 0, 0, 0, 0), 7, 1, 0, 0, 0, 0), 4, 0, 1, -1, -1, -1, -1);
        pairs("not each its best", both(sets(7, 6, 0, 0, 0, 0), 6, 1, 0, 0, 0, 0), 3, 1, 0, -1, -1, -1, -1);
        String[] five = both(sets(1, 1, 1, 1, 1, 1), 1, 1, 1, 1, 1, 0);
        pairs("no two the same", five, 5, -1, 0, 1, 2, 3, 4);
        pairs("not with the dead", Run.join(five, "dies(1) x4"), 1, -1, -1, -1, -1, -1, 4);
        pairs("with none left", Run.join(five, "dies(1) x6"), 0, -1, -1, -1, -1, -1, -1);
        pairs("the dead get nobody: the first is who is OUT", Run.join(five, "dies(0) x4"), 2, 0, 1);
        pairs("the lowest alone", Run.join(five, "dies(0) x5"), 1, 0);
        pairs("none is left", Run.join(five, "dies(0) x6"), 0);
        String[] just = {"person(4, 0, 1) x2", "press(0, 3, 10)", "press(1, 3, 10)", "dies(0) x5"};
        pairs("LEAST at least", just, 1, 0);
        pairs("LEAST at least", Run.join(just, "ask(11)"), 0, -1);
        pairs("as things stand now, whatever was paired before", Run.join(five, "paired(0, 1, -1)", "rub(1, 0, 0)",
            "rub(1, 2, 0)", "rub(1, 3, 0)", "rub(1, 4, 0)"), 1, -1, -1, -1, -1, -1, 1);
    }

    private static void pairedOrder() {
        pairs("nobody is less than any", both(sets(1, 1, 0, 0, 0, 0), 0, 1, 0, 0, 0, 0), 1, -1, 1, -1, -1, -1, -1);
        pairs("of several the first: the uppermost", both(sets(1, 0, 0, 0, 0, 0), 0, 1, 0, 1, 0, 1), 1, 1, -1, -1, -1, -1,
            -1);
        pairs("by rows: the first ones first", both(sets(1, 3, 0, 0, 0, 0), 0, 1, 3, 3, 0, 0), 3, 1, 2, -1, -1, -1, -1);
        pairs("the other way about", both(sets(0, 1, 0, 0, 0, 0), 1, 1, 0, 0, 0, 0), 1, -1, 0, -1, -1, -1, -1);
        due("PAIRED of 1 and 0", 1, both(sets(0, 1, 0, 0, 0, 0), 0, 0, 0, 0, 0, 1), "paired(1, 0, 5)");
        due("PAIRED of 1 and 0", -1, both(sets(0, 1, 0, 0, 0, 0), 0, 0, 0, 0, 0, 1), "paired(1, 0, 4)");
    }

    private static void pairedRefused() {
        Run.allRefused("no such PERSON", -11, "paired(-1, 0, -1)", "paired(0, -1, -1)", "paired(2, 0, -1)",
            "paired(0, 2, -1)", "paired(" + MIN + ", 0, 0)", "paired(0, " + MAX + ", 0)");
        Run.allRefused("also the same one", -11, "paired(0, 0, -1)", "paired(1, 1, 0)");
        Run.allRefused("no such i", -15, "paired(0, 1, -2)", "paired(0, 1, 4)", "paired(0, 1, " + MAX + ")",
            "paired(1, 0, 4)", "paired(1, 0, " + MIN + ")");
        Run.refused("-11 before -15", -11, "paired(0, 0, 6)");
        Run.refused("-11 before -15", -11, "paired(0, 2, -2)");
        due("i goes by the first one's COPIES", -1, new String[] {"person(0, 0, 1) x2", "dies(1) x6"}, "paired(0, 1, 5)");
        due("i goes by the first one's COPIES", -15, new String[] {"person(0, 0, 1) x2", "dies(0)"}, "paired(0, 1, 5)");
        due("i goes by the first one's COPIES", -1, new String[] {"person(0, 0, 1) x2", "dies(0)"}, "paired(0, 1, 4)");
    }

    private static void bears() {
        String[] land = Run.having(0, 1, 3, 4, 8, 16, 32);
        due("BEAR 0: none has it now", 0, land, "bear(0, 6)");
        due("BEAR 1: only who is OUT", 1, Run.having(0, 1, 0, 0, 0, 0, 0), "bear(0, 0)");
        due("BEAR 2", 2, land, "bear(0, 0)");
        due("BEAR 6: the lowest has it", 6, land, "bear(0, 5)");
        due("BEAR, others between need not", 6, Run.having(0, 128, 0, 0, 0, 0, 128), "bear(0, 7)");
        due("BEAR, DYINGS from now on", 1, land, "dies(0) x5", "bear(0, 5)");
        due("BEAR, DYINGS from now on", 2, land, "dies(0) x4", "bear(0, 5)");
        due("BEAR: only the dead have it", 0, land, "dies(0) x2", "bear(0, 1)");
        due("BEAR of one who is all dead", 0, land, "dies(0) x6", "bear(0, 5)");
        due("BEAR, LEAST at least", 5, FALLING, "bear(0, 1)");
        due("BEAR, LEAST at least", 4, FALLING, "ask(11)", "bear(0, 1)");
        Run.allRefused("no such PERSON", -1, "bear(-1, 0)", "bear(2, 0)", "bear(" + MIN + ", 0)");
        Run.allRefused("no such DEED", -6, "bear(0, -1)", "bear(0, 8)", "bear(0, " + MAX + ")");
        Run.refused("-1 before -6", -1, "bear(2, 8)");
    }

    private static void heirs() {
        String[] six = {"person(4, 0, 1) x6"};
        due("HEIR is also told if nobody BEARS it", 0, six, "heir(0)");
        due("HEIR of one PERSON", 0, new String[] {"person(0, 0, 1)"}, "heir(7)");
        due("HEIR, all dead", 0, new String[] {"person(0, 0, 1) x2", "dies(0) x6", "dies(1) x6"}, "heir(7)");
        due("HEIR, the last PERSON", 5, six, "press(5, 0, 50)", "heir(0)");
        due("HEIR, of several the first", 1, six, "press(1, 0, 50)", "press(5, 0, 50)", "heir(0)");
        due("HEIR, who BEARS it longest", 5, six, "press(1, 0, 50)", "press(5, 0, 50)", "dies(1)", "heir(0)");
        due("HEIR, who BEARS it longest", 1, six, "press(1, 0, 50)", "press(5, 0, 50)", "dies(5)", "heir(0)");
        due("HEIR, LEAST at least", 2, six, "press(1, 7, 9)", "press(2, 7, 10)", "heir(7)");
        Run.refusedOn(new String[0], "no PERSONS", -5, "heir(0)");
        Run.refusedOn(new String[0], "-5 before -6", -5, "heir(8)");
        Run.allRefused("no such DEED", -6, "heir(-1)", "heir(8)", "heir(" + MIN + ")", "heir(" + MAX + ")");
    }

    private static void straights() {
        String[] one = {"person(0, 0, 1)"};
        due("TRUE: all of them", 63, one, "straight(0, 0)");
        due("STRAIGHT: no moves", 0, one, "straight(0, 1)");
        due("STRAIGHT: none to be moved", -1, one, "straight(0, 2)");
        due("TRUE: the first alone", 1, one, "press(0, 0, 99)", "straight(0, 0)");
        due("TRUE: the last bit", 32 + 1, one, "press(0, 0, 5)", "straight(0, 0)");
        due("TRUE, dead or not", 32 + 1, one, "press(0, 0, 5)", "dies(0) x6", "straight(0, 0)");
        due("STRAIGHT: there and back", 8, one, "press(0, 0, 5)", "straight(0, 1)");
        due("STRAIGHT: those below go along", 5, one, "press(0, 0, 99)", "straight(0, 1)");
        due("STRAIGHT: the first to be moved", 1, one, "press(0, 0, 99)", "straight(0, 2)");
        due("STRAIGHT: the last alone", 1, one, "dies(0) x4", "press(0, 0, 99)", "straight(0, 1)");
        due("STRAIGHT: the last alone is to be moved", 5, one, "dies(0) x4", "press(0, 0, 99)", "straight(0, 2)");
        due("STRAIGHT: the last alone is not TRUE", 31, one, "dies(0) x4", "press(0, 0, 99)", "straight(0, 0)");
        due("STRAIGHT of one who is all dead", 1, one, "dies(0) x4", "press(0, 0, 99)", "dies(0) x2", "straight(0, 1)");
        due("STRAIGHT from 999", 999, new String[] {"person(6, 9, 1)"}, "press(0, 0, 99) x120", "straight(0, 1)");
        due("STRAIGHT, none of the first two", 3, new String[] {"person(6, 0, 1)"}, "press(0, 0, 99)", "straight(0, 2)");
        Run.allRefused("no such PERSON", -11, "straight(-1, 0)", "straight(2, 1)", "straight(" + MIN + ", 2)");
        Run.allRefused("another what", -15, "straight(0, -1)", "straight(0, 3)", "straight(1, " + MAX + ")");
        Run.refused("-11 before -15", -11, "straight(2, 3)");
    }
}
