/** Promises 31 to 38: told lives, and what comes to pass in truth. */
public final class LifeTest {
    public static void main(String[] args) {
        judges();
        wrongNumbers();
        lifeRefusals();
        behinds();
        longLives();
        presses();
        rubs();
        deaths();
        years();
        seeds();
        Check.end("LifeTest");
    }

    private static CarbonCopies land() {
        CarbonCopies x = new CarbonCopies();
        x.person(0, 0, 10);
        x.person(6, 2, 5);
        return x;
    }

    private static void judges() {
        CarbonCopies x = land();
        Check.ints(x, 0, 10001, 11799, 20000, 21507, 30000, 30001, 20100, 11101);
        Check.due("judge", x.judge(0, 8), -1);
        Check.due("judge none", x.judge(0, 0), -1);
        x.set(0, 6, 20000);
        Check.due("a rub on one that died in it", x.judge(0, 8), 6);
        Check.due("judge", x.judge(0, 6), -1);
        Check.ints(x, 0, 30000, 30000, 30000, 30000, 30000, 30000, 11001, 30000);
        Check.due("judge", x.judge(0, 7), -1);
        Check.due("dying of one all dead", x.judge(0, 8), 7);
        x.set(0, 7, 10001);
        Check.due("a press of one all dead", x.judge(0, 8), 7);
        x.set(0, 7, 20500);
        Check.due("a rub of one all dead", x.judge(0, 8), 7);
        Check.due("nothing is changed", x.status(1), 0);
        x.dies(0);
        Check.due("judge", x.judge(0, 8), 5);
    }

    private static void wrongNumbers() {
        CarbonCopies x = land();
        int[] wrong = {0, -1, 9999, 10000, 10100, 10800, 10801, 10999, 12001, 15001, 16001, 19001, 20008, 20099,
            20600, 20900, 22000, 26000, 29000, 30002, 30005, 30006, 30010, 31000, 40000, -10001, -30000,
            2147483647, -2147483648};
        Check.ints(x, 0, 10001, 0);
        for (int v : wrong) {
            x.set(0, 1, v);
            Check.due("judge " + v, x.judge(0, 2), 1);
            Check.due("behind " + v, x.behind(0, 2, 0), -6);
            Check.due("done " + v, x.done(0, 2), -6);
        }
        Check.due("nothing is changed", x.status(3), 0);
        int[] right = {10001, 10099, 10701, 10799, 11001, 20000, 20007, 20500, 20507, 21507, 30000, 30001};
        for (int v : right) {
            x.set(0, 1, v);
            Check.due("judge " + v, x.judge(0, 2), -1);
        }
        x.row(1, 3, 1);
        x.set(1, 0, (5L << 32) + 30001);
        Check.due("of longs the lowest 32 bits", x.judge(1, 1), -1);
        x.row(2, 0, 3);
        Check.due("bytes tell no life", x.judge(2, 3), 0);
        Check.due("judge refuses nothing for WRONG", x.status(16), 2 * 29);
    }

    private static void lifeRefusals() {
        CarbonCopies x = land();
        x.row(0, 2, 160);
        x.show(1, 0);
        int[][] calls = {{8, -1}, {-1, 0}, {1, -1}, {2, -1}, {0, -1}, {0, 161}, {0, 41}, {0, 160}};
        int[] codes = {-1, -1, -2, -3, -4, -5, -6, -6};
        for (int i = 0; i < codes.length; i++) {
            Check.due("judge " + codes[i], x.judge(calls[i][0], calls[i][1]), codes[i] - 10);
            Check.due("behind " + codes[i], x.behind(calls[i][0], calls[i][1], 0), codes[i]);
            Check.due("done " + codes[i], x.done(calls[i][0], calls[i][1]), codes[i]);
        }
        Check.due("behind -4 before -5", x.behind(0, -1, 3), -4);
        Check.due("behind -5, what", x.behind(0, 41, 3), -5);
        Check.due("behind -5, what", x.behind(0, 0, -1), -5);
        Check.due("behind -6, wrong", x.behind(0, 1, 2), -6);
        Check.due("done -6, wrong", x.done(0, 1), -6);
        Check.due("judge, wrong", x.judge(0, 40), 0);
        Check.dueAll("refusals", Check.refusals(x), 6, 3, 3, 4, 5, 8, 0);
    }

    private static void behinds() {
        CarbonCopies x = land();
        Check.ints(x, 3, 10025, 20100, 30001, 21107, 11150, 20501, 30000, 21200);
        x.image();
        int pressed = 50 + 50 + 45 + 38 + 33;
        int[] strengths = {45, 30, 30, 30, 30 + pressed, 30 + pressed, 30 + pressed, 30 + pressed};
        int[] dead = {0, 0, 1, 1, 1, 1, 2, 2};
        int[] smears = {0, 1, 1, 2, 2, 3, 3, 4};
        for (int n = 0; n <= 8; n++) {
            Check.due("strengths behind", x.behind(3, n, 0), n == 0 ? 0 : strengths[n - 1]);
            Check.due("dead behind", x.behind(3, n, 1), n == 0 ? 0 : dead[n - 1]);
            Check.due("smears behind", x.behind(3, n, 2), n == 0 ? 0 : smears[n - 1]);
            Check.due("nothing is changed", x.status(1) + x.status(3) + x.status(4), 0);
        }
        Check.due("done", x.done(3, 8), 2);
        Check.due("dead", x.status(1), 2);
        Check.due("strengths", x.status(3), strengths[7]);
        Check.due("smears", x.status(4), 4);
        Check.dueAll("done", Check.strengths(x, 0, 0), 25, 0, 5, 0, 0, 0);
        Check.dueAll("done", Check.strengths(x, 1, 1), 0, 50, 50, 45, 38, 33);
        Check.dueAll("drifts", Check.drifts(x, 0), 0, 1, 2, 0, 0, 0);
        Check.dueAll("drifts", Check.drifts(x, 1), 0, 0, 2, 4, 7, 9);
        Check.due("out", x.personOf(0, 3), 1);
        Check.due("done of none", x.done(3, 0), 2);
        x.restore();
        Check.due("done again", x.done(3, 8), 2);
        Check.due("the second time one is rubbed that is dead", x.judge(3, 8), 3);
        Check.due("done -6", x.done(3, 8), -6);
        Check.due("dead", x.status(1), 2);
    }

    private static void longLives() {
        CarbonCopies x = land();
        x.row(0, 1, 41);
        for (int i = 0; i < 41; i++) {
            x.set(0, i, 20000);
        }
        Check.due("judge 40", x.judge(0, 40), -1);
        Check.due("behind 40", x.behind(0, 40, 2), 40);
        Check.due("done 40", x.done(0, 40), 0);
        Check.due("done 40", x.done(0, 40), 0);
        Check.due("behind, 99 at most", x.behind(0, 40, 2), 99);
        Check.due("done 40", x.done(0, 40), 0);
        Check.due("smears, 99 at most", x.copyOf(0, 0, 0), 99);
        Check.due("judge 41", x.judge(0, 41), -16);
    }

    private static void presses() {
        CarbonCopies x = land();
        Check.due("press", x.press(0, 0, 35), 4);
        Check.dueAll("pressed", Check.strengths(x, 0, 0), 35, 25, 15, 5, 0, 0);
        Check.due("press", x.press(0, 0, 99), 6);
        Check.dueAll("99 at most", Check.strengths(x, 0, 0), 99, 99, 94, 74, 59, 49);
        Check.due("press", x.press(0, 7, 1), 1);
        Check.due("press", x.press(0, 7, 10), 1);
        Check.due("press", x.press(0, 7, 11), 2);
        Check.dueAll("no other deed", Check.strengths(x, 0, 1), 0, 0, 0, 0, 0, 0);
        Check.diesTimes(x, 0, 4);
        Check.due("press", x.press(0, 1, 99), 2);
        Check.dueAll("only who is not dead", Check.strengths(x, 0, 1), 0, 0, 0, 0, 99, 89);
        Check.due("press", x.press(1, 2, 8), 3);
        Check.dueAll("once nothing, nothing", Check.strengths(x, 1, 2), 8, 8, 3, 0, 0, 0);
        Check.due("press -1", x.press(2, 8, 0), -1);
        Check.due("press -1", x.press(-1, 0, 1), -1);
        Check.due("press -6", x.press(0, 8, 1), -6);
        Check.due("press -6", x.press(0, -1, 1), -6);
        Check.due("press -6", x.press(0, 0, 0), -6);
        Check.due("press -6", x.press(0, 0, 100), -6);
        Check.diesTimes(x, 0, 2);
        Check.due("press -6, all dead", x.press(0, 0, 1), -6);
        Check.dueAll("refusals", Check.refusals(x), 2, 0, 0, 0, 0, 5, 0);
    }

    private static void rubs() {
        CarbonCopies x = land();
        x.press(0, 3, 50);
        Check.due("rub", x.rub(0, 1, 3), 40);
        Check.dueAll("rubbed", Check.strengths(x, 0, 3), 50, 0, 30, 20, 10, 0);
        Check.due("rub of nothing counts", x.rub(0, 1, 3), 0);
        Check.due("smears", x.copyOf(0, 1, 0), 2);
        Check.due("drift stays", x.drift(0, 1), 1);
        x.dies(0);
        Check.due("rub", x.rub(0, 1, 3), 0);
        Check.due("rub -6, dead", x.rub(0, 0, 3), -6);
        Check.due("rub -6", x.rub(0, 6, 3), -6);
        Check.due("rub -6", x.rub(0, -1, 3), -6);
        Check.due("rub -6", x.rub(0, 1, 8), -6);
        Check.due("rub -6", x.rub(0, 1, -1), -6);
        Check.due("rub -1", x.rub(2, 9, 9), -1);
        Check.due("rub -1", x.rub(-1, 0, 0), -1);
        Check.due("smears", x.status(4), 3);
        for (int i = 0; i < 110; i++) {
            x.rub(0, 5, 0);
        }
        Check.due("99 at most", x.copyOf(0, 5, 0), 99);
        Check.due("rubbed", x.personOf(0, 5), 102);
    }

    private static void deaths() {
        CarbonCopies x = land();
        for (int i = 1; i <= 6; i++) {
            Check.due("dies", x.dies(1), i);
            Check.due("dead", x.status(1), i);
        }
        Check.due("dies -6", x.dies(1), -6);
        Check.due("dies -1", x.dies(2), -1);
        Check.due("dies -1", x.dies(-1), -1);
        Check.due("out", x.personOf(1, 3), 6);
        Check.due("the other lives", x.personOf(0, 3), 0);
    }

    /** Years as the words tell them, with the draws made here. */
    private static int drawn = 1;

    private static int draw(int n) {
        drawn = drawn * 1103515245 + 12345;
        return (drawn >> 16 & 65535) % n;
    }

    private static void liveYear(CarbonCopies x, int persons) {
        int person = draw(persons);
        int what = draw(8);
        if (what < 5) {
            int deed = draw(8);
            x.press(person, deed, 1 + draw(60));
        } else if (what < 7) {
            int copy = draw(6);
            x.rub(person, copy, draw(8));
        } else {
            x.dies(person);
        }
    }

    private static void years() {
        CarbonCopies none = new CarbonCopies();
        Check.due("years -5 before -6", none.years(0), -5);
        Check.due("no draws", none.status(5), 1);
        for (int persons = 1; persons <= 6; persons++) {
            CarbonCopies x = new CarbonCopies();
            CarbonCopies y = new CarbonCopies();
            for (int p = 0; p < persons; p++) {
                x.person(6 - p, p, 4 + p);
                y.person(6 - p, p, 4 + p);
            }
            drawn = 77 * persons;
            x.seed(drawn);
            int[] spans = {1, 2, 3, 50, 100, 100};
            for (int span : spans) {
                for (int i = 0; i < span; i++) {
                    liveYear(y, persons);
                }
                Check.due("years", x.years(span), y.status(1));
                Check.due("seed", x.status(5), drawn);
                Check.due("strengths", x.status(3), y.status(3));
                Check.due("smears", x.status(4), y.status(4));
            }
            for (int p = 0; p < persons; p++) {
                Check.dueAll("drifts", Check.drifts(x, p), Check.drifts(y, p));
                Check.due("out", x.personOf(p, 3), y.personOf(p, 3));
                Check.due("read", x.personOf(p, 4), y.personOf(p, 4));
            }
            Check.due("years -6", x.years(0), -6);
            Check.due("years -6", x.years(101), -6);
            Check.due("years -6", x.years(-1), -6);
            Check.due("seed", x.status(5), drawn);
            Check.due("refusals", x.status(16), 3);
        }
    }

    private static void seeds() {
        CarbonCopies x = land();
        Check.due("seed", x.seed(-2147483648), 1);
        Check.due("seed", x.seed(-5), -2147483648);
        Check.due("status", x.status(5), -5);
        x.seed(12345);
        x.years(1);
        int after = x.status(5);
        x.seed(12345);
        x.years(1);
        Check.due("the same draws", x.seed(0), after);
    }
}
