/** Promises 16 and 17 and what the Terms say of a LAND read from a ROW of letters, at its edges. */
public final class TextEdgeTest {
    /** PERSON 0 lives, of PERSON 1 only COPY 5, PERSON 2 is all dead. */
    private static final String[] LAND = {"person(0, 1, 5) x3", "dies(1) x5", "dies(2) x6"};
    private static final String[] NONE = {};
    private static final String[] FULL = {"person(0, 1, 5) x6"};

    public static void main(String[] args) {
        itemsTaken();
        longest();
        tooEarly();
        blanks();
        digits();
        personNumbers();
        pressNumbers();
        rubNumbers();
        dyingNumbers();
        leastNumbers();
        nobodyYet();
        room();
        overWhatThereIs();
        allOrNothing();
        letters();
        refusals();
        faultsKept();
        Check.end("TextEdgeTest");
    }

    private static void reads(String why, String[] land, String letters, int items) {
        Run.due(why + ": " + letters, items, Run.join(land, "text 0: " + letters, "land(0)"));
        Run.due(why + ": " + letters, -1, Run.join(land, "text 0: " + letters, "land(0)", "fault()"));
    }

    private static void faults(String why, String[] land, String letters, int place) {
        Run.due(why + ": " + letters, -6, Run.join(land, "text 0: " + letters, "land(0)"));
        Run.due(why + ": " + letters, place, Run.join(land, "text 0: " + letters, "land(0)", "fault()"));
        Run.due(why + ", counted: " + letters, 1, Run.join(land, "text 0: " + letters, "land(0)", "status(16)"));
    }

    private static void itemsTaken() {
        reads("one ITEM", NONE, "person 0 0 1", 1);
        reads("one ITEM", LAND, "press 0 0 1", 1);
        reads("one ITEM", LAND, "rub 0 0 0", 1);
        reads("one ITEM", LAND, "dies 0", 1);
        reads("one ITEM", LAND, "least 1", 1);
        reads("any number of times ; and ITEM", LAND, "person 0 0 1;press 0 0 1;rub 0 0 0;dies 0;least 1", 5);
        faults("no ITEM", LAND, ";", 0);
        faults("no ITEM behind ;", LAND, "least 1;;least 1", 8);
        faults("no ; between", LAND, "least 1 least 1", 7);
        faults("another letter between", LAND, "least 1,least 1", 7);
        faults("no such word", LAND, "move 0", 0);
        faults("no such word", LAND, "Dies 0", 0);
        faults("no such word", LAND, "diet 0", 3);
        faults("a letter too many", LAND, "diess 0", 4);
    }

    private static String times(String item, int n) {
        StringBuilder all = new StringBuilder();
        for (int i = 0; i < n; i++) {
            all.append(item);
        }
        return all.toString();
    }

    private static void longest() {
        reads("160 elements", NONE, times("least 9;", 19) + "least 42", 20);
        Run.due("160 elements, to the last", 42, "text 0: " + times("least 9;", 19) + "least 42", "land(0)",
            "status(2)");
        reads("the most ITEMS", FULL, times("dies 0;", 6) + times("dies 1;", 6) + times("dies 2;", 6)
            + times("dies 3;", 4) + "dies 3", 23);
        faults("160 elements, and ends too early", NONE, times("least 9;", 20), 160);
        faults("160 elements, the last can't stand", NONE, times("least 9;", 19) + "least 9x", 159);
    }

    /** Every beginning of an ITEM that is none itself: the FAULT is the number of elements. */
    private static void tooEarly() {
        String[] items = {"person 1 2 3", "press 0 1 2", "rub 0 1 2", "dies 0", "least 5"};
        for (String item : items) {
            for (int i = 0; i < item.length(); i++) {
                String begun = item.substring(0, i);
                if (i > 0) {
                    faults("it ends too early", LAND, begun, i);
                }
                faults("it ends too early", LAND, "least 7;" + begun, 8 + i);
                faults("the first that can't stand", LAND, begun + "#", i);
                faults("the first that can't stand", LAND, "least 7;" + begun + "#9", 8 + i);
            }
            faults("behind an ITEM stands ;", LAND, item + "#", item.length());
            faults("behind an ITEM stands ;", LAND, item + " ", item.length());
        }
        Run.due("it ends too early: nothing at all", -6, "row(0, 0, 0)", "land(0)");
        Run.due("it ends too early: nothing at all", 0, "row(0, 0, 0)", "land(0)", "fault()");
    }

    private static void blanks() {
        faults("one blank, not two", LAND, "dies  0", 5);
        faults("one blank, not none", LAND, "dies0", 4);
        faults("one blank, not none", LAND, "press 011 1", 8);
        faults("one blank, not two", LAND, "press 0  1 1", 8);
        faults("the first place, whatever comes behind it", LAND, "press0199 0 1", 5);
        faults("the first place, whatever comes behind it", LAND, "rub0199 0 0", 3);
        faults("the first place, whatever comes behind it", LAND, "person0199 0 1", 6);
        faults("the first place, whatever comes behind it", LAND, "press 0 9#99", 8);
        faults("no blank ahead", LAND, " dies 0", 0);
        faults("no blank ahead", LAND, "dies 0; dies 0", 7);
        faults("no blank behind", LAND, "dies 0 ;dies 0", 6);
    }

    private static void digits() {
        reads("1 digit", LAND, "least 9", 1);
        reads("2 digits", LAND, "least 10", 1);
        reads("NUMBERS may begin with 0", LAND, "press 00 07 09", 1);
        reads("NUMBERS may begin with 0", LAND, "least 01", 1);
        faults("no digit", LAND, "least ;", 6);
        faults("no digit", LAND, "least x", 6);
        faults("the letter ahead of 0", LAND, "least /", 6);
        faults("the letter behind 9", LAND, "least :", 6);
        faults("no sign", LAND, "least -1", 6);
        faults("no sign", LAND, "least +1", 6);
        faults("3 digits", LAND, "least 123", 8);
        faults("3 digits", LAND, "least 012", 8);
        faults("3 digits", LAND, "person 000 0 1", 9);
        faults("the letter ahead of 0, second", LAND, "least 1/", 7);
        faults("the letter behind 9, second", LAND, "least 1:", 7);
    }

    private static void personNumbers() {
        reads("K 0", NONE, "person 0 0 1", 1);
        reads("K 6", NONE, "person 6 0 1", 1);
        faults("K 7", NONE, "person 7 0 1", 7);
        faults("K 60: the place of its first digit", NONE, "person 60 0 1", 7);
        reads("A 9", NONE, "person 0 9 1", 1);
        faults("A 10: the place of its first digit", NONE, "person 0 10 1", 9);
        faults("A 10, K of two digits", NONE, "person 00 10 1", 10);
        reads("T 1", NONE, "person 0 0 1", 1);
        reads("T 20", NONE, "person 0 0 20", 1);
        faults("T 0", NONE, "person 0 0 0;", 11);
        faults("T 21: the place of its first digit", NONE, "person 0 0 21", 11);
        faults("T 99", NONE, "person 0 0 99", 11);
        Run.due("K is the KIND", 6, "text 0: person 6 9 20", "land(0)", "personOf(0, 0)");
        Run.due("A is a", 9, "text 0: person 6 9 20", "land(0)", "personOf(0, 1)");
        Run.due("T is THICK", 20, "text 0: person 6 9 20", "land(0)", "personOf(0, 2)");
    }

    private static void pressNumbers() {
        reads("P 0", LAND, "press 0 0 1", 1);
        reads("P 1, the last who isn't all dead", LAND, "press 1 0 1", 1);
        faults("P all dead", LAND, "press 2 0 1", 6);
        faults("P all dead: the place of its first digit", LAND, "press 02 0 1", 6);
        faults("no such P", LAND, "press 3 0 1", 6);
        faults("no such P", LAND, "press 10 0 1", 6);
        faults("P ahead of D", LAND, "press 2 8 0", 6);
        reads("D 7", LAND, "press 0 7 1", 1);
        faults("D 8", LAND, "press 0 8 1", 8);
        faults("D 10: the place of its first digit", LAND, "press 0 10 1", 8);
        faults("D ahead of F", LAND, "press 0 8 0", 8);
        reads("F 1", LAND, "press 0 0 1", 1);
        reads("F 99", LAND, "press 0 0 99", 1);
        faults("F 0", LAND, "press 0 0 0;", 10);
        faults("F 00: the place of its first digit", LAND, "press 0 0 00", 10);
        faults("F 100: no third digit", LAND, "press 0 0 100", 12);
        Run.due("D and F", 99, Run.join(LAND, "text 0: press 1 7 99", "land(0)", "strength(1, 5, 7)"));
    }

    private static void rubNumbers() {
        reads("P 0", LAND, "rub 0 0 0", 1);
        faults("no such P", LAND, "rub 3 0 0", 4);
        faults("no such P: the place of its first digit", LAND, "rub 12 0 0", 4);
        reads("J 5", LAND, "rub 0 5 0", 1);
        faults("J 6", LAND, "rub 0 6 0", 6);
        reads("J, not dead", LAND, "rub 1 5 0", 1);
        faults("J dead", LAND, "rub 1 4 0", 6);
        faults("J dead: the place of its first digit", LAND, "rub 1 04 0", 6);
        faults("J of one who is all dead", LAND, "rub 2 5 0", 6);
        faults("J of one who is all dead", LAND, "rub 2 0 0", 6);
        reads("D 7", LAND, "rub 0 0 7", 1);
        faults("D 8", LAND, "rub 0 0 8", 8);
        faults("D 80: the place of its first digit", LAND, "rub 0 0 80", 8);
        faults("J ahead of D", LAND, "rub 0 6 8", 6);
        Run.due("P and J", 1, Run.join(LAND, "text 0: rub 1 5 7", "land(0)", "copyOf(1, 5, 0)"));
    }

    private static void dyingNumbers() {
        reads("P 0", LAND, "dies 0", 1);
        reads("P with one COPY", LAND, "dies 1", 1);
        faults("P all dead", LAND, "dies 2", 5);
        faults("P all dead: the place of its first digit", LAND, "dies 02", 5);
        faults("no such P", LAND, "dies 3", 5);
        faults("no such P", LAND, "dies 30", 5);
    }

    private static void leastNumbers() {
        reads("N 1", NONE, "least 1", 1);
        reads("N 99", NONE, "least 99", 1);
        faults("N 0", NONE, "least 0;least 1", 6);
        faults("N 00: the place of its first digit", NONE, "least 00", 6);
        faults("N 100: no third digit", NONE, "least 100", 8);
        Run.due("LEAST becomes N", 99, "text 0: least 99", "land(0)", "status(2)");
    }

    private static void nobodyYet() {
        faults("no PERSONS", NONE, "press 0 0 1", 6);
        faults("no PERSONS", NONE, "rub 0 0 0", 4);
        faults("no PERSONS", NONE, "dies 0", 5);
        faults("only one yet", NONE, "person 0 0 1;dies 1", 18);
        reads("one of this text", NONE, "person 0 0 1;dies 0;press 0 0 1;rub 0 1 0", 4);
    }

    private static void room() {
        String five = times("person 0 0 1;", 5);
        reads("room for 6", NONE, five + "person 0 0 1", 6);
        faults("no room for a seventh: its word", NONE, five + "person 0 0 1;person 0 0 1", 78);
        faults("no room: its word", FULL, "person 0 0 1", 0);
        faults("no room, once the word is whole", FULL, "person", 0);
        faults("no room, once the word is whole", FULL, "person#", 0);
        faults("no room, ahead of what its numbers are", FULL, "person 9 99 0", 0);
        for (int i = 1; i < 6; i++) {
            faults("until then the number of elements", FULL, "person".substring(0, i), i);
            faults("until then the first element that is not as it is", FULL, "person".substring(0, i) + "#", i);
            faults("until then the number of elements", FULL, "dies 0;" + "person".substring(0, i), 7 + i);
        }
        faults("no room behind another ITEM", FULL, "dies 0;person 0 0 1", 7);
        reads("press is another word", FULL, "press 0 0 1", 1);
        faults("pr begins press", FULL, "prson", 2);
        Run.due("how many there are then", 6, Run.join(FULL, "text 0: person 0 0 1", "land(0)", "status(0)"));
    }

    private static void overWhatThereIs() {
        String[] two = {"person(0, 0, 1)", "press(0, 0, 9)", "text 0: person 1 2 3;press 0 0 9;dies 1", "land(0)"};
        Run.due("over what there is: PERSONS", 2, Run.join(two, "status(0)"));
        Run.due("over what there is: STRENGTHS", 18, Run.join(two, "strength(0, 0, 0)"));
        Run.due("over what there is: who is OUT", 1, Run.join(two, "personOf(1, 3)"));
        reads("as things stand then", LAND, "dies 0;dies 0;dies 0;dies 0;dies 0;rub 0 5 0;dies 0", 7);
        faults("as things stand then", LAND, "dies 0;rub 0 0 0", 13);
        faults("as things stand then", LAND, "dies 1;dies 1", 12);
        faults("as things stand then", LAND, "dies 1;press 1 0 1", 13);
        Run.due("in their order", 9, "person(0, 0, 1)", "text 0: press 0 0 9;dies 0;press 0 0 9", "land(0)",
            "strength(0, 0, 0)");
        Run.due("in their order", 17, "person(0, 0, 1)", "text 0: press 0 0 9;dies 0;press 0 0 9", "land(0)",
            "strength(0, 1, 0)");
        Run.due("99 at most", 99, "person(0, 0, 1)", "text 0: press 0 0 60;press 0 0 60", "land(0)",
            "strength(0, 0, 0)");
    }

    private static void allOrNothing() {
        String text = "person 1 2 3;press 0 0 9;rub 0 1 1;dies 0;least 50;";
        for (int what = 0; what <= 5; what++) {
            int want = what == 0 ? 3 : what == 1 ? 11 : what == 2 ? 10 : what == 5 ? 1 : 0;
            Run.due("all is told or nothing", want, Run.join(LAND, "text 0: " + text, "land(0)", "status(" + what + ")"));
        }
        Run.due("all is told or nothing: DRIFT", 0, Run.join(LAND, "text 0: " + text, "land(0)", "drift(0, 1)"));
        Run.due("all is told or nothing: the next number", 3, Run.join(LAND, "text 0: " + text, "land(0)",
            "person(6, 0, 1)"));
        Run.due("the IMAGE is not touched", 1, "person(0, 0, 1)", "image()", "text 0: " + text, "land(0)", "restore()");
    }

    private static void letters() {
        for (int sort = 0; sort <= 3; sort++) {
            Run.due("a ROW of any SORT", 34, "text" + sort + " 0: least 34", "land(0)", "status(2)");
        }
        Run.due("of longs the lowest 32 bits", 1, "text3 0: least 34", "set(0, 0, " + ((1L << 32) + 'l') + ")",
            "set(0, 6, " + ((-1L << 32) + '3') + ")", "land(0)");
        Run.due("of longs all lowest 32 bits", 6, "text3 0: least 34", "set(0, 6, " + ((1L << 31) + '3') + ")",
            "land(0)", "fault()");
        Run.due("an element below 0", 0, "text2 0: least 34", "set(0, 0, -148)", "land(0)", "fault()");
        Run.due("an int that is no letter", 6, "text2 0: least 34", "set(0, 6, " + (65536 + '3') + ")", "land(0)",
            "fault()");
        Run.due("SHELF 7", 1, "text 7: least 34", "land(7)");
    }

    private static void refusals() {
        Run.allRefused("no such SHELF", -1, "land(-1)", "land(8)", "land(-2147483648)", "land(2147483647)");
        Run.allRefused("a PERSON where a ROW is wanted", -2, "land(1)", "land(7)");
        Run.refused("NOTHING", -3, "land(2)");
        // The FAULT of the land in which all this is refused is that of this text, so that nothing changes here either.
        Run.refused("a FAULT", -6, "land(6)");
    }

    private static void faultsKept() {
        String bad = "text 0: least x";
        Run.due("none yet", -1, bad, "fault()");
        Run.due("the latest: none", -1, bad, "land(0)", "text 0: least 5", "land(0)", "fault()");
        Run.due("the latest: another", 0, bad, "land(0)", "text 0: x", "land(0)", "fault()");
        Run.due("that came to a ROW, not one of no such SHELF", 6, bad, "land(0)", "land(8)", "fault()");
        Run.due("that came to a ROW, not one of NOTHING", 6, bad, "land(0)", "land(1)", "fault()");
        Run.due("that came to a ROW, not one of a PERSON", 6, bad, "person(0, 0, 1)", "show(1, 0)", "land(0)",
            "land(1)", "fault()");
        Run.due("a ROW without elements is one", 0, "text 0: least 5", "row(1, 0, 0)", "land(0)", "land(1)", "fault()");
        Run.due("THE IMAGE is not of the FAULT", 6, "image()", bad, "land(0)", "restore()", "fault()");
    }
}
