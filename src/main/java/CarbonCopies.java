import java.util.Arrays;

/** A land of carbon copies. What each call answers is promised in ../shared/DOC.md. */
public final class CarbonCopies {
    public static final int NONE = -1;

    private static final int NOBODY = -1;
    private static final int OTHER = -2;
    private static final int NOTHING = -3;
    private static final int BELOW = -4;
    private static final int BEYOND = -5;
    private static final int WRONG = -6;
    private static final int ROOM = -7;

    private static final int PERSONS = 6;
    private static final int COPIES = 6;
    private static final int DEEDS = 8;
    private static final int KINDS = 7;
    private static final int SHEETS = 5;
    private static final int SHELVES = 8;
    private static final int SORTS = 4;
    private static final int LONGEST_ROW = 160;
    private static final int LONGEST_LIFE = 40;
    private static final int LONGEST_TRACE = 20;
    private static final int FIRST_ROW = 100;
    private static final int MOST_A = 9;
    private static final int MOST_THICK = 20;
    private static final int MOST = 99;
    private static final int MOST_DRIFT = 999;
    private static final int MOST_OFF = 20;
    private static final int MOST_YEARS = 100;
    private static final int PRESS_TOLD = 10000;
    private static final int RUB_TOLD = 20000;
    private static final int DYING_TOLD = 30000;
    private static final int COPY_SETS = 64;
    private static final int ITEM_PERSON = 0;
    private static final int ITEM_PRESS = 1;
    private static final int ITEM_RUB = 2;
    private static final int ITEM_DYING = 3;
    private static final int ITEM_LEAST = 4;

    private final Shelf[] shelves = new Shelf[SHELVES];
    private final int[] refusals = new int[8];
    private final Trace steps = new Trace();
    private final Land truth = new Land(steps);
    private final Land trial = new Land(steps);
    private final Land kept = new Land(steps);
    private final Reader reader = new Reader(trial);
    private final int[] fits = new int[PERSONS * COPIES];
    private final int[] ours = new int[COPIES];
    private final int[] theirs = new int[COPIES];
    private final int[] partners = new int[COPIES];
    private final int[][] bestBelow = new int[COPIES + 1][COPY_SETS];
    private boolean isKept = false;
    private int faultPlace = NONE;

    public CarbonCopies() {
        for (int s = 0; s < SHELVES; s++) {
            shelves[s] = new Shelf();
        }
    }

    // ---- shelves ----

    public int row(int s, int sort, int n) {
        Shelf shelf = shelfAt(s);
        if (shelf == null) {
            return refuse(NOBODY);
        }
        if (n < 0) {
            return refuse(BELOW);
        }
        if (sort < 0 || sort >= SORTS) {
            return refuse(WRONG);
        }
        if (n > LONGEST_ROW) {
            return refuse(ROOM);
        }
        shelf.takeRow(sort, n);
        return 1;
    }

    public int set(int s, int i, long v) {
        Shelf shelf = shelfAt(s);
        if (shelf == null || !shelf.hasRow()) {
            return refuse(lackOfRow(shelf));
        }
        if (!shelf.hasElement(i)) {
            return refuse(BEYOND);
        }
        shelf.put(i, v);
        return 1;
    }

    public int copy(int p, int q, int i, int j, int n) {
        Shelf from = shelfAt(p);
        Shelf to = shelfAt(q);
        int refusal = refusalOfTwo(from, to);
        if (refusal != 0 || from == null || to == null) {
            return refuse(refusal);
        }
        if (n < 0) {
            return refuse(BELOW);
        }
        if (!from.hasPart(i, n) || !to.hasPart(j, n)) {
            return refuse(BEYOND);
        }
        System.arraycopy(from.elements, i, to.elements, j, n);
        return 1;
    }

    public long element(int s, int i) {
        Shelf shelf = shelfAt(s);
        return shelf == null ? 0L : shelf.elementAt(i);
    }

    public int show(int s, int person) {
        Shelf shelf = shelfAt(s);
        if (shelf == null || person != NONE && truth.personAt(person) == null) {
            return refuse(NOBODY);
        }
        shelf.held = person;
        return person == NONE ? 0 : 1;
    }

    public int holds(int s) {
        Shelf shelf = shelfAt(s);
        return shelf == null ? NONE : shelf.held;
    }

    public int says(int s, int kind) {
        Shelf shelf = shelfAt(s);
        if (shelf == null || kind < 0 || kind >= KINDS) {
            return refuse(NOBODY);
        }
        if (shelf.hasRow()) {
            return refuse(OTHER);
        }
        Person one = truth.personAt(shelf.held);
        if (one == null) {
            return refuse(NOTHING);
        }
        if (!isOfKind(one, kind)) {
            return refuse(OTHER);
        }
        switch (kind) {
            case 0:
                return one.thick;
            case 1:
            case 6:
                return one.out;
            case 2:
            case 3:
                return one.lossAt(SHEETS);
            default:
                return one.lossAt(1);
        }
    }

    // ---- the land ----

    public int person(int kind, int a, int thick) {
        if (kind < 0 || kind >= KINDS) {
            return refuse(NOBODY);
        }
        if (a < 0 || a > MOST_A || thick < 1 || thick > MOST_THICK) {
            return refuse(WRONG);
        }
        if (!truth.hasRoom()) {
            return refuse(ROOM);
        }
        return truth.add(kind, a, thick);
    }

    public int ask(int v) {
        if (v < 1 || v > MOST) {
            return refuse(WRONG);
        }
        int before = truth.least;
        truth.least = v;
        return before;
    }

    public int personOf(int person, int what) {
        Person one = truth.personAt(person);
        if (one == null) {
            return refuse(BEYOND);
        }
        switch (what) {
            case 0:
                return one.kind;
            case 1:
                return one.a;
            case 2:
                return one.thick;
            case 3:
                return one.out;
            case 4:
                return one.readSum();
            case 5:
                return one.smearSum();
            default:
                return refuse(BEYOND);
        }
    }

    public int copyOf(int person, int copy, int what) {
        Person one = truth.personAt(person);
        if (one == null || !isCopy(copy)) {
            return refuse(BEYOND);
        }
        switch (what) {
            case 0:
                return one.smears[copy];
            case 1:
                return one.hasBits(copy, truth.least);
            case 2:
                return one.isLeft(copy) ? 0 : 1;
            default:
                return refuse(BEYOND);
        }
    }

    public int strength(int person, int copy, int deed) {
        Person one = truth.personAt(person);
        if (one == null || !isCopy(copy) || !isDeed(deed)) {
            return refuse(BEYOND);
        }
        return one.strengthOf(copy, deed);
    }

    public int drift(int person, int copy) {
        Person one = truth.personAt(person);
        if (one == null || !isCopy(copy)) {
            return refuseLess(BEYOND, 10000);
        }
        return one.drifts[copy];
    }

    public int loss(int person, int sheet) {
        Person one = truth.personAt(person);
        if (one == null) {
            return refuse(NOBODY);
        }
        if (sheet < 1 || sheet > SHEETS) {
            return refuse(WRONG);
        }
        return one.lossAt(sheet);
    }

    public int land(int s) {
        Shelf shelf = shelfAt(s);
        if (shelf == null || !shelf.hasRow()) {
            return refuse(lackOfRow(shelf));
        }
        trial.takeFrom(truth);
        int items = reader.readFrom(shelf);
        faultPlace = reader.fault;
        if (faultPlace != NONE) {
            return refuse(WRONG);
        }
        truth.takeFrom(trial);
        return items;
    }

    public int fault() {
        return faultPlace;
    }

    // ---- what comes of it ----

    public int have(int person, int deed) {
        Person one = truth.personAt(person);
        if (one == null) {
            return refuse(NOBODY);
        }
        if (!isDeed(deed)) {
            return refuse(WRONG);
        }
        return one.haveBits(deed, truth.least);
    }

    public int all(int person) {
        Person one = truth.personAt(person);
        return one == null ? refuse(NOBODY) : one.allBits(truth.least);
    }

    public int force(int person, int deed, int k, int what) {
        Person one = truth.personAt(person);
        if (one == null) {
            return refuseLess(NOBODY, 10);
        }
        if (what != 0 && what != 1) {
            return refuseLess(BEYOND, 10);
        }
        if (!isDeed(deed) || !one.isLeft(k)) {
            return refuseLess(WRONG, 10);
        }
        return leastForce(one, deed, k, what == 1);
    }

    public int got(int person, int k, int f) {
        Person one = truth.personAt(person);
        if (one == null) {
            return refuse(NOBODY);
        }
        if (!one.isLeft(k) || f < 1 || f > MOST) {
            return refuse(WRONG);
        }
        return one.gotBy(k, f);
    }

    public int which(int s, int n, int e, int i) {
        Shelf shelf = shelfAt(s);
        int refusal = refusalOfTold(shelf, n, e);
        if (shelf == null || refusal != 0) {
            return refuse(refusal);
        }
        int many = truth.findFits(shelf, n, e, fits);
        if (i == NONE) {
            return many;
        }
        if (i < 0 || i >= many || i >= fits.length) {
            return refuse(BEYOND);
        }
        return fits[i];
    }

    public int next(int s, int n, int e) {
        Shelf shelf = shelfAt(s);
        int refusal = refusalOfTold(shelf, n, e);
        if (shelf == null || refusal != 0) {
            return refuseLess(refusal, 10);
        }
        int many = truth.findFits(shelf, n, e, fits);
        return many < 2 ? NONE : bestToAsk(n, many);
    }

    public int unlike(int one, int other) {
        int first = hasOfTold(one);
        int second = hasOfTold(other);
        if (first == NONE || second == NONE) {
            return refuse(WRONG);
        }
        return Integer.bitCount(first ^ second);
    }

    public int odd(int person) {
        Person one = truth.personAt(person);
        if (one == null) {
            return refuse(NOBODY);
        }
        if (one.isGone()) {
            return refuse(WRONG);
        }
        return oddOf(one);
    }

    public int mend(int person, int deed) {
        Person one = truth.personAt(person);
        if (one == null) {
            return refuse(NOBODY);
        }
        if (deed == NONE) {
            int rubs = 0;
            for (int d = 0; d < DEEDS; d++) {
                rubs += one.rubsToMend(d, truth.least);
            }
            return rubs;
        }
        return isDeed(deed) ? one.rubsToMend(deed, truth.least) : refuse(WRONG);
    }

    public int paired(int person, int other, int i) {
        Person one = truth.personAt(person);
        Person second = truth.personAt(other);
        if (one == null || second == null || person == other) {
            return refuseLess(NOBODY, 10);
        }
        int left = COPIES - one.out;
        if (i < NONE || i >= left) {
            return refuseLess(BEYOND, 10);
        }
        int most = pairBest(one, second);
        int copy = one.out + i;
        return i == NONE || !isCopy(copy) ? most : partners[copy];
    }

    public int bear(int person, int deed) {
        Person one = truth.personAt(person);
        if (one == null) {
            return refuse(NOBODY);
        }
        return isDeed(deed) ? one.bearing(deed, truth.least) : refuse(WRONG);
    }

    public int heir(int deed) {
        if (truth.count == 0) {
            return refuse(BEYOND);
        }
        return isDeed(deed) ? truth.longestBearer(deed) : refuse(WRONG);
    }

    public int straight(int person, int what) {
        Person one = truth.personAt(person);
        if (one == null) {
            return refuseLess(NOBODY, 10);
        }
        switch (what) {
            case 0:
                return one.trueBits();
            case 1:
                return one.movesToStraight();
            case 2:
                return one.firstAskew();
            default:
                return refuseLess(BEYOND, 10);
        }
    }

    public int judge(int s, int n) {
        Shelf shelf = shelfAt(s);
        int refusal = refusalOfLife(shelf, n, true);
        if (shelf == null || refusal != 0) {
            return refuseLess(refusal, 10);
        }
        return truth.firstWrong(shelf, n);
    }

    public int behind(int s, int n, int what) {
        Shelf shelf = shelfAt(s);
        int refusal = refusalOfLife(shelf, n, what >= 0 && what <= 2);
        if (shelf == null || refusal != 0) {
            return refuse(refusal);
        }
        if (truth.firstWrong(shelf, n) != NONE) {
            return refuse(WRONG);
        }
        trial.takeFrom(truth);
        trial.liveTold(shelf, n);
        switch (what) {
            case 0:
                return trial.strengthTotal();
            case 1:
                return trial.deadTotal();
            default:
                return trial.smearTotal();
        }
    }

    // ---- in truth ----

    public int done(int s, int n) {
        Shelf shelf = shelfAt(s);
        int refusal = refusalOfLife(shelf, n, true);
        if (shelf == null || refusal != 0) {
            return refuse(refusal);
        }
        if (truth.firstWrong(shelf, n) != NONE) {
            return refuse(WRONG);
        }
        truth.liveTold(shelf, n);
        return truth.deadTotal();
    }

    public int press(int person, int deed, int f) {
        Person one = truth.personAt(person);
        if (one == null) {
            return refuse(NOBODY);
        }
        if (!isDeed(deed) || f < 1 || f > MOST || one.isGone()) {
            return refuse(WRONG);
        }
        return one.pressWith(deed, f);
    }

    public int rub(int person, int copy, int deed) {
        Person one = truth.personAt(person);
        if (one == null) {
            return refuse(NOBODY);
        }
        if (!one.isLeft(copy) || !isDeed(deed)) {
            return refuse(WRONG);
        }
        return one.rubOn(copy, deed);
    }

    public int dies(int person) {
        Person one = truth.personAt(person);
        if (one == null) {
            return refuse(NOBODY);
        }
        if (one.isGone()) {
            return refuse(WRONG);
        }
        one.out++;
        return one.out;
    }

    public int years(int n) {
        if (truth.count == 0) {
            return refuse(BEYOND);
        }
        if (n < 1 || n > MOST_YEARS) {
            return refuse(WRONG);
        }
        for (int i = 0; i < n; i++) {
            truth.liveYear();
        }
        return truth.deadTotal();
    }

    public int seed(int v) {
        int before = truth.drawn;
        truth.drawn = v;
        return before;
    }

    // ---- moves, image, status ----

    public int act(int person, int move, int x) {
        steps.clear();
        Person one = truth.personAt(person);
        if (one == null) {
            return 0;
        }
        switch (move) {
            case 0:
                return one.lives(x);
            case 1:
                return one.goes(x);
            case 2:
                return one.looks(x);
            default:
                return 0;
        }
    }

    public int trace(int i) {
        return steps.bodyAt(i);
    }

    public int image() {
        kept.takeFrom(truth);
        isKept = true;
        return kept.count;
    }

    public int restore() {
        if (!isKept) {
            return refuse(WRONG);
        }
        truth.takeFrom(kept);
        for (int s = 0; s < SHELVES; s++) {
            Shelf shelf = shelfAt(s);
            if (shelf != null && shelf.hasPerson() && truth.personAt(shelf.held) == null) {
                shelf.held = NONE;
            }
        }
        return truth.count;
    }

    public int status(int what) {
        switch (what) {
            case 0:
                return truth.count;
            case 1:
                return truth.deadTotal();
            case 2:
                return truth.least;
            case 3:
                return truth.strengthTotal();
            case 4:
                return truth.smearTotal();
            case 5:
                return truth.drawn;
            case 6:
                return steps.count;
            default:
                return what < 11 || what > 17 ? NONE : refusals[what - 10];
        }
    }

    // ---- what may be ----

    private static boolean isCopy(int copy) {
        return copy >= 0 && copy < COPIES;
    }

    private static boolean isDeed(int deed) {
        return deed >= 0 && deed < DEEDS;
    }

    private static boolean isOfKind(Person one, int kind) {
        switch (kind) {
            case 0:
                return true;
            case 1:
                return one instanceof Top;
            case 2:
                return one instanceof Faint;
            case 3:
                return one instanceof Violet;
            case 4:
                return one instanceof Hard;
            case 5:
                return one instanceof Blue;
            case 6:
                return one instanceof Creased;
            default:
                return false;
        }
    }

    private Shelf shelfAt(int s) {
        return s < 0 || s >= SHELVES ? null : shelves[s];
    }

    private int refuse(int code) {
        return refuseLess(code, 0);
    }

    /** Some calls tell refusals by lower numbers, as theirs are answers too; they count all the same. */
    private int refuseLess(int code, int less) {
        if (code <= NOBODY && code >= ROOM) {
            refusals[-code]++;
        }
        return code - less;
    }

    private static int lackOfRow(Shelf shelf) {
        if (shelf == null) {
            return NOBODY;
        }
        return shelf.hasPerson() ? OTHER : NOTHING;
    }

    private static int refusalOfTwo(Shelf from, Shelf to) {
        if (from == null || to == null) {
            return NOBODY;
        }
        if (from.hasPerson() || to.hasPerson()) {
            return OTHER;
        }
        if (!from.hasRow() || !to.hasRow()) {
            return NOTHING;
        }
        return from.held == to.held ? 0 : OTHER;
    }

    private static int refusalOfTold(Shelf shelf, int n, int e) {
        if (shelf == null || !shelf.hasRow()) {
            return lackOfRow(shelf);
        }
        if (n < 0) {
            return BELOW;
        }
        if (n > shelf.size) {
            return BEYOND;
        }
        return n < 1 || n > DEEDS || e < 0 || e > MOST_OFF ? WRONG : 0;
    }

    private static int refusalOfLife(Shelf shelf, int n, boolean canBeTold) {
        if (shelf == null || !shelf.hasRow()) {
            return lackOfRow(shelf);
        }
        if (n < 0) {
            return BELOW;
        }
        if (n > shelf.size || !canBeTold) {
            return BEYOND;
        }
        return n > LONGEST_LIFE ? WRONG : 0;
    }

    // ---- finding ----

    /** What a copy told as 10 times the person and the copy has, or NONE if there is no such copy. */
    private int hasOfTold(int told) {
        if (told < 0) {
            return NONE;
        }
        Person one = truth.personAt(told / 10);
        int copy = told % 10;
        return one == null || !isCopy(copy) ? NONE : one.hasBits(copy, truth.least);
    }

    private int leastForce(Person one, int deed, int k, boolean just) {
        for (int f = 1; f <= MOST; f++) {
            boolean reaches = one.haveDown(deed, one.out, k, f, truth.least) == k - one.out + 1;
            boolean goesOn = one.haveDown(deed, k + 1, SHEETS, f, truth.least) > 0;
            if (reaches && !(just && goesOn)) {
                return f;
            }
        }
        return NONE;
    }

    private int bestToAsk(int from, int many) {
        int best = NONE;
        int fewest = many + 1;
        for (int deed = from; deed < DEEDS; deed++) {
            int having = 0;
            for (int i = 0; i < many && i < fits.length; i++) {
                int has = hasOfTold(fits[i]);
                having += has >> deed & 1;
            }
            int worst = Math.max(having, many - having);
            if (worst < fewest) {
                fewest = worst;
                best = deed;
            }
        }
        return best;
    }

    private int oddOf(Person one) {
        int oddest = one.out;
        int most = -1;
        for (int copy = one.out; copy < COPIES; copy++) {
            int has = one.hasBits(copy, truth.least);
            int differing = 0;
            for (int other = one.out; other < COPIES; other++) {
                differing += Integer.bitCount(has ^ one.hasBits(other, truth.least));
            }
            if (differing > most) {
                most = differing;
                oddest = copy;
            }
        }
        return oddest;
    }

    /** Fills partners; answers how many deeds the pairs share. Works upwards over sets of copies given away. */
    private int pairBest(Person one, Person other) {
        for (int copy = 0; copy < COPIES; copy++) {
            ours[copy] = one.hasBits(copy, truth.least);
            theirs[copy] = other.hasBits(copy, truth.least);
        }
        int most = 0;
        Arrays.fill(bestBelow[COPIES], 0);
        for (int copy = COPIES - 1; copy >= 0 && one.isLeft(copy); copy--) {
            for (int given = 0; given < COPY_SETS; given++) {
                bestBelow[copy][given] = bestFrom(copy, given, other);
            }
            most = bestBelow[copy][0];
        }
        int given = 0;
        for (int copy = 0; copy < COPIES; copy++) {
            int partner = one.isLeft(copy) ? firstBest(copy, given, other) : NONE;
            partners[copy] = partner;
            given |= partner == NONE ? 0 : 1 << partner;
        }
        return most;
    }

    private int bestFrom(int copy, int given, Person other) {
        int most = bestBelow[copy + 1][given];
        for (int partner = 0; partner < COPIES; partner++) {
            if (other.isLeft(partner) && (given >> partner & 1) == 0) {
                most = Math.max(most, bestWith(copy, given, partner));
            }
        }
        return most;
    }

    private int bestWith(int copy, int given, int partner) {
        int shared = Integer.bitCount(ours[copy] & theirs[partner]);
        return shared + bestBelow[copy + 1][given | 1 << partner];
    }

    /** Nobody comes first: of rows that are as good, the one with NONE is less. */
    private int firstBest(int copy, int given, Person other) {
        int most = bestBelow[copy][given];
        if (bestBelow[copy + 1][given] == most) {
            return NONE;
        }
        for (int partner = 0; partner < COPIES; partner++) {
            if (other.isLeft(partner) && (given >> partner & 1) == 0 && bestWith(copy, given, partner) == most) {
                return partner;
            }
        }
        return NONE;
    }

    // ---- classes ----

    /** What stands on one shelf; held is what holds() answers. */
    private static final class Shelf {
        final long[] elements = new long[LONGEST_ROW];
        int held = NONE;
        int size = 0;

        boolean hasRow() {
            return held >= FIRST_ROW;
        }

        boolean hasPerson() {
            return held >= 0 && held < FIRST_ROW;
        }

        boolean hasElement(int i) {
            return hasRow() && i >= 0 && i < size;
        }

        boolean hasPart(int from, int n) {
            return hasRow() && from >= 0 && n >= 0 && (long) from + n <= size;
        }

        void takeRow(int sort, int n) {
            held = FIRST_ROW + sort;
            size = Math.min(n, LONGEST_ROW);
            Arrays.fill(elements, 0L);
        }

        void put(int i, long v) {
            if (!hasElement(i)) {
                return;
            }
            switch (held - FIRST_ROW) {
                case 0:
                    elements[i] = (byte) v;
                    break;
                case 1:
                    elements[i] = (short) v;
                    break;
                case 2:
                    elements[i] = (int) v;
                    break;
                default:
                    elements[i] = v;
                    break;
            }
        }

        long elementAt(int i) {
            return hasElement(i) ? elements[i] : 0L;
        }

        int intAt(int i) {
            return (int) elementAt(i);
        }
    }

    /** The bodies that ran in the latest act(). */
    private static final class Trace {
        final int[] bodies = new int[LONGEST_TRACE];
        int count = 0;

        void clear() {
            count = 0;
        }

        void began(int body) {
            if (count >= 0 && count < LONGEST_TRACE) {
                bodies[count] = body;
            }
            count++;
        }

        int bodyAt(int i) {
            return i >= 0 && i < count && i < LONGEST_TRACE ? bodies[i] : NONE;
        }
    }

    private static class Person {
        final int kind;
        final int number;
        final Trace steps;
        final int[] strengths = new int[COPIES * DEEDS];
        final int[] smears = new int[COPIES];
        final int[] drifts = new int[COPIES];
        int a = 0;
        int thick = 1;
        int out = 0;

        Person(int kind, int number, Trace steps) {
            this.kind = kind;
            this.number = number;
            this.steps = steps;
        }

        final void begin(int newA, int newThick) {
            a = newA;
            thick = newThick;
            out = 0;
            Arrays.fill(strengths, 0);
            Arrays.fill(smears, 0);
            Arrays.fill(drifts, 0);
        }

        final void takeFrom(Person other) {
            a = other.a;
            thick = other.thick;
            out = other.out;
            System.arraycopy(other.strengths, 0, strengths, 0, strengths.length);
            System.arraycopy(other.smears, 0, smears, 0, smears.length);
            System.arraycopy(other.drifts, 0, drifts, 0, drifts.length);
        }

        int lossAt(int sheet) {
            return thick;
        }

        int driftOver(int sheets) {
            return sheets;
        }

        int lives(int x) {
            steps.began(10);
            return x + number;
        }

        int goes(int x) {
            steps.began(11);
            return lives(x) * 2;
        }

        int looks(int x) {
            steps.began(12);
            return goes(x) ^ lives(x - a);
        }

        final boolean isGone() {
            return out >= COPIES;
        }

        final boolean isLeft(int copy) {
            return copy >= out && isCopy(copy);
        }

        final int strengthOf(int copy, int deed) {
            return isCopy(copy) && isDeed(deed) ? strengths[copy * DEEDS + deed] : 0;
        }

        final int hasBits(int copy, int least) {
            int bits = 0;
            for (int deed = 0; deed < DEEDS; deed++) {
                if (strengthOf(copy, deed) >= least) {
                    bits |= 1 << deed;
                }
            }
            return bits;
        }

        final int haveBits(int deed, int least) {
            int bits = 0;
            for (int copy = out; copy < COPIES; copy++) {
                if (strengthOf(copy, deed) >= least) {
                    bits |= 1 << copy;
                }
            }
            return bits;
        }

        final int allBits(int least) {
            int bits = (1 << DEEDS) - 1;
            for (int copy = out; copy < COPIES; copy++) {
                bits &= hasBits(copy, least);
            }
            return bits;
        }

        final int gotBy(int copy, int f) {
            int got = f;
            for (int sheet = 1; sheet <= copy - out && sheet <= SHEETS; sheet++) {
                got = Math.max(0, got - lossAt(sheet));
            }
            return got;
        }

        /** How many copies from one to another would have the deed behind a press with force f. */
        final int haveDown(int deed, int from, int to, int f, int least) {
            int many = 0;
            for (int copy = from; copy <= to && copy < COPIES; copy++) {
                if (strengthOf(copy, deed) + gotBy(copy, f) >= least) {
                    many++;
                }
            }
            return many;
        }

        final int pressWith(int deed, int f) {
            int many = 0;
            for (int copy = Math.max(0, out); copy < COPIES && isDeed(deed); copy++) {
                int got = gotBy(copy, f);
                if (got > 0) {
                    int at = copy * DEEDS + deed;
                    strengths[at] = Math.min(MOST, strengths[at] + got);
                    int drift = drifts[copy] + driftOver(copy - out);
                    drifts[copy] = Math.max(-MOST_DRIFT, Math.min(MOST_DRIFT, drift));
                    many++;
                }
            }
            return many;
        }

        final int rubOn(int copy, int deed) {
            if (!isCopy(copy) || !isDeed(deed)) {
                return 0;
            }
            int before = strengths[copy * DEEDS + deed];
            strengths[copy * DEEDS + deed] = 0;
            smears[copy] = Math.min(MOST, smears[copy] + 1);
            return before;
        }

        final int rubsToMend(int deed, int least) {
            int having = Integer.bitCount(haveBits(deed, least));
            return having == COPIES - out ? 0 : having;
        }

        final int bearing(int deed, int least) {
            for (int copy = COPIES - 1; copy >= out; copy--) {
                if (strengthOf(copy, deed) >= least) {
                    return copy - out + 1;
                }
            }
            return 0;
        }

        final int readSum() {
            int sum = 0;
            for (int deed = 0; deed < DEEDS; deed++) {
                sum += strengthOf(COPIES - 1, deed);
            }
            return sum;
        }

        final int smearSum() {
            int sum = 0;
            for (int smear : smears) {
                sum += smear;
            }
            return sum;
        }

        final int strengthSum() {
            int sum = 0;
            for (int strength : strengths) {
                sum += strength;
            }
            return sum;
        }

        final int trueBits() {
            int bits = 0;
            for (int copy = 0; copy < COPIES; copy++) {
                if (drifts[copy] == 0) {
                    bits |= 1 << copy;
                }
            }
            return bits;
        }

        /** A move shifts all below alike, so only what a copy drifts from the one above it costs moves. */
        final int movesToStraight() {
            int moves = 0;
            int above = 0;
            for (int drift : drifts) {
                moves += Math.abs(drift - above);
                above = drift;
            }
            return moves;
        }

        final int firstAskew() {
            for (int copy = 0; copy < COPIES; copy++) {
                if (drifts[copy] != 0) {
                    return copy;
                }
            }
            return NONE;
        }
    }

    private static class Top extends Person {
        Top(int kind, int number, Trace steps) {
            super(kind, number, steps);
        }

        int lossAt(int sheet) {
            return sheet == 1 ? 0 : super.lossAt(sheet);
        }

        int lives(int x) {
            steps.began(20);
            return super.lives(x) + a;
        }
    }

    private static class Faint extends Person {
        Faint(int kind, int number, Trace steps) {
            super(kind, number, steps);
        }

        int lossAt(int sheet) {
            return super.lossAt(sheet) + 2;
        }

        int goes(int x) {
            steps.began(30);
            return super.goes(x) * 3;
        }
    }

    private static final class Violet extends Faint {
        Violet(int kind, int number, Trace steps) {
            super(kind, number, steps);
        }

        int lossAt(int sheet) {
            int loss = super.lossAt(sheet);
            return sheet == SHEETS ? 2 * loss : loss;
        }

        int goes(int x) {
            steps.began(40);
            return super.goes(x + 1);
        }
    }

    private static class Hard extends Person {
        Hard(int kind, int number, Trace steps) {
            super(kind, number, steps);
        }

        int lossAt(int sheet) {
            return super.lossAt(sheet) / 2;
        }

        int looks(int x) {
            steps.began(50);
            return -super.looks(x);
        }

        int lives(int x) {
            steps.began(51);
            return super.lives(x) - number;
        }
    }

    private static final class Blue extends Hard {
        Blue(int kind, int number, Trace steps) {
            super(kind, number, steps);
        }

        int lossAt(int sheet) {
            return super.lossAt(sheet) + (a & 1);
        }

        int looks(int x) {
            steps.began(60);
            return super.looks(x) ^ 5;
        }
    }

    private static final class Creased extends Top {
        Creased(int kind, int number, Trace steps) {
            super(kind, number, steps);
        }

        int lossAt(int sheet) {
            return super.lossAt(sheet) + (sheet == 3 ? a : 0);
        }

        int driftOver(int sheets) {
            return a * sheets + (sheets >= 3 ? 1 : 0);
        }

        int lives(int x) {
            steps.began(70);
            return super.lives(x) * 2;
        }

        int goes(int x) {
            steps.began(71);
            return super.goes(x - a);
        }
    }

    /** All that an image is of: the persons, the least, the seed of the draws. */
    private static final class Land {
        final Person[] persons = new Person[PERSONS];
        final int[] outs = new int[PERSONS];
        final Trace steps;
        int count = 0;
        int least = 10;
        int drawn = 1;

        Land(Trace steps) {
            this.steps = steps;
        }

        boolean hasRoom() {
            return count < PERSONS;
        }

        Person personAt(int number) {
            return number < 0 || number >= count || number >= PERSONS ? null : persons[number];
        }

        /** Those of an earlier use are used again if they are of the kind, as room for objects is short. */
        private Person placeFor(int number, int kind) {
            if (number < 0 || number >= PERSONS) {
                return null;
            }
            Person one = persons[number];
            if (one != null && one.kind == kind) {
                return one;
            }
            switch (kind) {
                case 1:
                    one = new Top(kind, number, steps);
                    break;
                case 2:
                    one = new Faint(kind, number, steps);
                    break;
                case 3:
                    one = new Violet(kind, number, steps);
                    break;
                case 4:
                    one = new Hard(kind, number, steps);
                    break;
                case 5:
                    one = new Blue(kind, number, steps);
                    break;
                case 6:
                    one = new Creased(kind, number, steps);
                    break;
                default:
                    one = new Person(kind, number, steps);
                    break;
            }
            persons[number] = one;
            return one;
        }

        int add(int kind, int a, int thick) {
            Person one = placeFor(count, kind);
            if (one == null) {
                return NONE;
            }
            one.begin(a, thick);
            count++;
            return one.number;
        }

        void takeFrom(Land other) {
            least = other.least;
            drawn = other.drawn;
            count = 0;
            for (int i = 0; i < other.count && i < PERSONS; i++) {
                Person one = other.personAt(i);
                Person mine = one == null ? null : placeFor(i, one.kind);
                if (mine != null) {
                    mine.takeFrom(one);
                    count = i + 1;
                }
            }
        }

        int deadTotal() {
            int sum = 0;
            for (int i = 0; i < count; i++) {
                Person one = personAt(i);
                sum += one == null ? 0 : one.out;
            }
            return sum;
        }

        int strengthTotal() {
            int sum = 0;
            for (int i = 0; i < count; i++) {
                Person one = personAt(i);
                sum += one == null ? 0 : one.strengthSum();
            }
            return sum;
        }

        int smearTotal() {
            int sum = 0;
            for (int i = 0; i < count; i++) {
                Person one = personAt(i);
                sum += one == null ? 0 : one.smearSum();
            }
            return sum;
        }

        int longestBearer(int deed) {
            int longest = -1;
            int bearer = NONE;
            for (int i = 0; i < count; i++) {
                Person one = personAt(i);
                int bearing = one == null ? -1 : one.bearing(deed, least);
                if (bearing > longest) {
                    longest = bearing;
                    bearer = i;
                }
            }
            return bearer;
        }

        int findFits(Shelf told, int n, int e, int[] into) {
            int many = 0;
            for (int i = 0; i < count; i++) {
                Person one = personAt(i);
                for (int copy = 0; one != null && copy < COPIES; copy++) {
                    if (one.isLeft(copy) && fitsTold(one, copy, told, n, e) && many < into.length) {
                        into[many] = 10 * i + copy;
                        many++;
                    }
                }
            }
            return many;
        }

        private static boolean fitsTold(Person one, int copy, Shelf told, int n, int e) {
            for (int deed = 0; deed < n && deed < DEEDS; deed++) {
                long off = (long) one.strengthOf(copy, deed) - told.intAt(deed);
                if (off > e || off < -e) {
                    return false;
                }
            }
            return true;
        }

        /** Only who is dead by then decides what can be, so nothing else is lived for judging. */
        int firstWrong(Shelf told, int n) {
            for (int i = 0; i < PERSONS; i++) {
                Person one = personAt(i);
                outs[i] = one == null ? COPIES : one.out;
            }
            for (int i = 0; i < n; i++) {
                int v = told.intAt(i);
                if (!canBe(v)) {
                    return i;
                }
                int dying = v - DYING_TOLD;
                if (dying >= 0 && dying < PERSONS) {
                    outs[dying]++;
                }
            }
            return NONE;
        }

        private boolean canBe(int v) {
            if (v < PRESS_TOLD || v >= DYING_TOLD + PERSONS) {
                return false;
            }
            if (v >= DYING_TOLD) {
                return outs[v - DYING_TOLD] < COPIES;
            }
            int number = v / 1000 % 10;
            if (number >= PERSONS || outs[number] >= COPIES) {
                return false;
            }
            int middle = v / 100 % 10;
            int last = v % 100;
            if (v < RUB_TOLD) {
                return isDeed(middle) && last >= 1;
            }
            return isCopy(middle) && middle >= outs[number] && isDeed(last);
        }

        /** For lives that firstWrong() finds nothing wrong with. */
        void liveTold(Shelf told, int n) {
            for (int i = 0; i < n; i++) {
                int v = told.intAt(i);
                boolean dying = v >= DYING_TOLD;
                Person one = personAt(dying ? v - DYING_TOLD : v / 1000 % 10);
                if (one == null) {
                    continue;
                }
                if (dying) {
                    one.out++;
                } else if (v >= RUB_TOLD) {
                    one.rubOn(v / 100 % 10, v % 100);
                } else {
                    one.pressWith(v / 100 % 10, v % 100);
                }
            }
        }

        int drawBelow(int n) {
            drawn = drawn * 1103515245 + 12345;
            return n < 1 ? 0 : (drawn >>> 16) % n;
        }

        /** The draws come for one who is all dead too. */
        void liveYear() {
            Person one = personAt(drawBelow(count));
            int sort = drawBelow(8);
            if (sort < 5) {
                int deed = drawBelow(DEEDS);
                int f = 1 + drawBelow(60);
                if (one != null && !one.isGone()) {
                    one.pressWith(deed, f);
                }
            } else if (sort < 7) {
                int copy = drawBelow(COPIES);
                int deed = drawBelow(DEEDS);
                if (one != null && one.isLeft(copy)) {
                    one.rubOn(copy, deed);
                }
            } else if (one != null && !one.isGone()) {
                one.out++;
            }
        }
    }

    /** Reads a text into a land, which is spoilt if there is a fault. */
    private static final class Reader {
        final Land land;
        final int[] letters = new int[LONGEST_ROW];
        int size = 0;
        int place = 0;
        int fault = NONE;
        int numberPlace = 0;
        int item = NONE;
        int first = 0;
        int second = 0;
        int third = 0;

        Reader(Land land) {
            this.land = land;
        }

        int readFrom(Shelf shelf) {
            size = Math.min(shelf.size, LONGEST_ROW);
            for (int i = 0; i < size; i++) {
                letters[i] = shelf.intAt(i);
            }
            place = 0;
            fault = NONE;
            int items = 0;
            for (int i = 0; i <= LONGEST_ROW; i++) {
                readItem();
                if (fault != NONE) {
                    return items;
                }
                tellItem();
                items++;
                if (place >= size) {
                    return items;
                }
                readLetter(';');
            }
            return items;
        }

        private void readItem() {
            int letter = letterAt(place);
            switch (letter) {
                case 'p':
                    if (letterAt(place + 1) == 'r') {
                        readPress();
                    } else {
                        readPerson();
                    }
                    break;
                case 'r':
                    readRub();
                    break;
                case 'd':
                    readDying();
                    break;
                case 'l':
                    readLeast();
                    break;
                default:
                    faultAt(place);
                    break;
            }
        }

        private void tellItem() {
            Person one = land.personAt(first);
            if (item == ITEM_PERSON) {
                land.add(first, second, third);
            } else if (item == ITEM_LEAST) {
                land.least = first;
            } else if (one == null) {
                return;
            } else if (item == ITEM_PRESS) {
                one.pressWith(second, third);
            } else if (item == ITEM_RUB) {
                one.rubOn(second, third);
            } else {
                one.out++;
            }
        }

        private void readPerson() {
            int start = place;
            item = ITEM_PERSON;
            readWord("person");
            if (!land.hasRoom()) {
                faultAt(start);
            }
            first = readNumber(0, KINDS - 1);
            second = readNumber(0, MOST_A);
            third = readNumber(1, MOST_THICK);
        }

        private void readPress() {
            item = ITEM_PRESS;
            readWord("press");
            first = readNumber(0, land.count - 1);
            if (outOf(first) >= COPIES) {
                faultAt(numberPlace);
            }
            second = readNumber(0, DEEDS - 1);
            third = readNumber(1, MOST);
        }

        private void readRub() {
            item = ITEM_RUB;
            readWord("rub");
            first = readNumber(0, land.count - 1);
            second = readNumber(outOf(first), COPIES - 1);
            third = readNumber(0, DEEDS - 1);
        }

        private void readDying() {
            item = ITEM_DYING;
            readWord("dies");
            first = readNumber(0, land.count - 1);
            if (outOf(first) >= COPIES) {
                faultAt(numberPlace);
            }
        }

        private void readLeast() {
            item = ITEM_LEAST;
            readWord("least");
            first = readNumber(1, MOST);
        }

        private int outOf(int number) {
            Person one = land.personAt(number);
            return one == null ? COPIES : one.out;
        }

        private int letterAt(int i) {
            return i >= 0 && i < size && i < LONGEST_ROW ? letters[i] : NONE;
        }

        /** The first fault stays: what comes behind it is not read. */
        private void faultAt(int i) {
            if (fault == NONE) {
                fault = i;
            }
        }

        private void readLetter(int letter) {
            if (fault != NONE) {
                return;
            }
            if (letterAt(place) != letter) {
                fault = place;
                return;
            }
            place++;
        }

        private void readWord(String word) {
            for (int i = 0; i < word.length(); i++) {
                readLetter(word.charAt(i));
            }
        }

        private int readNumber(int from, int to) {
            readLetter(' ');
            int value = digitHere();
            if (fault != NONE || value == NONE) {
                faultAt(place);
                return NONE;
            }
            numberPlace = place;
            place++;
            int last = digitHere();
            if (last != NONE) {
                value = 10 * value + last;
                place++;
            }
            if (value < from || value > to) {
                fault = numberPlace;
                return NONE;
            }
            return value;
        }

        private int digitHere() {
            int letter = letterAt(place);
            return letter >= '0' && letter <= '9' ? letter - '0' : NONE;
        }
    }
}
