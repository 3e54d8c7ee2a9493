/** Promises 16 and 17: lands read from texts, and their faults. */
public final class TextTest {
    public static void main(String[] args) {
        reads();
        oneOrder();
        words();
        numbers();
        noRoom();
        living();
        sorts();
        refusals();
        Check.end("TextTest");
    }

    private static CarbonCopies land() {
        CarbonCopies x = new CarbonCopies();
        x.person(0, 1, 5);
        x.person(1, 2, 5);
        return x;
    }

    private static void reads(CarbonCopies x, String letters, int items) {
        Check.text(x, 0, letters);
        Check.due("land: " + letters, x.land(0), items);
        Check.due("fault: " + letters, x.fault(), -1);
    }

    private static void faults(CarbonCopies x, String letters, int place) {
        long strengths = x.status(3);
        Check.text(x, 0, letters);
        Check.due("land: " + letters, x.land(0), -6);
        Check.due("fault: " + letters, x.fault(), place);
        Check.due("nothing of it is told", x.status(3), strengths);
    }

    private static void reads() {
        CarbonCopies x = new CarbonCopies();
        reads(x, "person 6 9 20;person 00 00 01", 2);
        Check.due("kind", x.personOf(0, 0), 6);
        Check.due("a", x.personOf(0, 1), 9);
        Check.due("thick", x.personOf(0, 2), 20);
        Check.due("kind", x.personOf(1, 0), 0);
        Check.due("thick", x.personOf(1, 2), 1);
        reads(x, "press 1 7 99;rub 1 5 7;dies 1;press 01 06 9;least 99", 5);
        Check.dueAll("pressed", Check.strengths(x, 1, 7), 99, 98, 97, 96, 95, 0);
        Check.dueAll("pressed behind dying", Check.strengths(x, 1, 6), 0, 9, 8, 7, 6, 5);
        Check.dueAll("drifts", Check.drifts(x, 1), 0, 1, 3, 5, 7, 9);
        Check.due("smears", x.copyOf(1, 5, 0), 1);
        Check.due("out", x.personOf(1, 3), 1);
        Check.due("least", x.status(2), 99);
        Check.due("persons", x.status(0), 2);
        reads(x, "least 1", 1);
        Check.due("least", x.status(2), 1);
        reads(x, "person 5 5 5;rub 2 0 0;press 2 0 1", 3);
        Check.due("over what there is", x.status(0), 3);
        Check.due("smears", x.copyOf(2, 0, 0), 1);
    }

    private static void oneOrder() {
        CarbonCopies x = land();
        x.image();
        faults(x, "person 0 0 1;least 5;dies 0;press 0 0 9;rub 0 1 0;x", 50);
        Check.due("persons", x.status(0), 2);
        Check.due("least", x.status(2), 10);
        Check.due("out", x.personOf(0, 3), 0);
        Check.due("smears", x.status(4), 0);
        Check.due("drift", x.drift(0, 2), 0);
        faults(x, "press 2 0 9;person 0 0 1", 6);
        faults(x, "dies 0;rub 0 0 0", 13);
        reads(x, "dies 0;rub 0 1 0", 2);
    }

    private static void words() {
        String[] items = {"person 1 2 3", "press 0 1 2", "rub 0 1 2", "dies 0", "least 5"};
        for (String item : items) {
            for (int i = 0; i < item.length(); i++) {
                faults(land(), item.substring(0, i), i);
                faults(land(), "least 7;" + item.substring(0, i) + "#", 8 + i);
            }
            faults(land(), item + ";", item.length() + 1);
            faults(land(), item + "; " + item, item.length() + 1);
            faults(land(), item + " ", item.length());
            faults(land(), item + ";;", item.length() + 1);
        }
        faults(land(), "", 0);
        faults(land(), ";", 0);
        faults(land(), " dies 0", 0);
        faults(land(), "Person 0 0 1", 0);
        faults(land(), "pub 0 0 0", 1);
        faults(land(), "prson 0 0 1", 2);
        faults(land(), "peress 0 0 1", 3);
        faults(land(), "dies  0", 5);
        faults(land(), "dies\t0", 4);
        faults(land(), "dies0", 4);
        faults(land(), "least 5 6", 7);
    }

    private static void numbers() {
        CarbonCopies x = land();
        faults(x, "least 0", 6);
        faults(x, "least 00", 6);
        faults(x, "least 0x", 6);
        faults(x, "least 100", 8);
        faults(x, "least -1", 6);
        faults(x, "least 1:", 7);
        faults(x, "least 1/", 7);
        faults(x, "person 7 0 1", 7);
        faults(x, "person 9", 7);
        faults(x, "person 60 0 1", 7);
        faults(x, "person 006 0 1", 9);
        faults(x, "person 0 10 1", 9);
        faults(x, "person 0 0 0", 11);
        faults(x, "person 0 0 21", 11);
        faults(x, "person 0 0 201", 13);
        faults(x, "press 2 0 1", 6);
        faults(x, "press 99 0 1", 6);
        faults(x, "press 0 8 1", 8);
        faults(x, "press 0 7 0", 10);
        faults(x, "press 00 07 00", 12);
        faults(x, "rub 2 0 0", 4);
        faults(x, "rub 0 6 0", 6);
        faults(x, "rub 0 5 8", 8);
        faults(x, "dies 2", 5);
        faults(new CarbonCopies(), "dies 0", 5);
        faults(new CarbonCopies(), "dies ", 5);
        faults(new CarbonCopies(), "press 0 8 0", 6);
        faults(new CarbonCopies(), "rub 0 0 0", 4);
    }

    private static void noRoom() {
        CarbonCopies x = land();
        reads(x, "person 2 0 1;person 3 0 1;person 4 0 1", 3);
        faults(x, "person 0 0 1;person 0 0 1", 13);
        reads(x, "person 0 0 1", 1);
        faults(x, "person 0 0 1", 0);
        faults(x, "person", 0);
        faults(x, "person#", 0);
        faults(x, "perso", 5);
        faults(x, "perso#", 5);
        faults(x, "p", 1);
        faults(x, "peRson", 2);
        faults(x, "least 5;person 9", 8);
        faults(x, "least 5;pers", 12);
        reads(x, "press 5 0 1", 1);
    }

    private static void living() {
        CarbonCopies x = land();
        reads(x, "dies 0;dies 0;dies 0;dies 0;dies 0", 5);
        faults(x, "rub 0 4 0", 6);
        reads(x, "rub 0 5 0", 1);
        faults(x, "dies 0;dies 0", 12);
        faults(x, "dies 0;press 0 0 1", 13);
        faults(x, "dies 00;rub 00 05 0", 15);
        reads(x, "dies 0;dies 1;press 1 0 1", 3);
        faults(x, "press 0 9 1", 6);
        faults(x, "rub 0 0 0", 6);
        Check.due("dead", x.status(1), 7);
    }

    private static void sorts() {
        String letters = "least 23";
        for (int sort = 0; sort < 4; sort++) {
            CarbonCopies x = new CarbonCopies();
            x.row(5, sort, letters.length());
            for (int i = 0; i < letters.length(); i++) {
                x.set(5, i, letters.charAt(i) + (1L << 32) * (i - 3));
            }
            Check.due("land", x.land(5), 1);
            Check.due("least", x.status(2), 23);
            x.set(5, 2, letters.charAt(2) + 65536 * 256);
            Check.due("of longs and ints the lowest 32 bits", x.land(5), sort < 2 ? 1 : -6);
            Check.due("fault", x.fault(), sort < 2 ? -1 : 2);
        }
    }

    private static void refusals() {
        CarbonCopies x = land();
        x.show(1, 0);
        faults(x, "x", 0);
        Check.due("land -1", x.land(8), -1);
        Check.due("land -1", x.land(-1), -1);
        Check.due("land -2", x.land(1), -2);
        Check.due("land -3", x.land(2), -3);
        Check.due("the fault of the latest that came to a row", x.fault(), 0);
        Check.dueAll("refusals", Check.refusals(x), 2, 1, 1, 0, 0, 1, 0);
        reads(x, "least 4", 1);
        x.image();
        faults(x, "least 4;", 8);
        x.restore();
        Check.due("the fault is not of the image", x.fault(), 8);
    }
}
