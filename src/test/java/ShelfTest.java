/** Promises 1 to 8: a new object and what stands on its shelves. */
public final class ShelfTest {
    public static void main(String[] args) {
        newObject();
        rows();
        elements();
        copies();
        shows();
        sayings();
        Check.end("ShelfTest");
    }

    private static void newObject() {
        CarbonCopies x = new CarbonCopies();
        Check.due("NONE", CarbonCopies.NONE, -1);
        for (int what = 0; what <= 6; what++) {
            int want = what == 2 ? 10 : what == 5 ? 1 : 0;
            Check.due("status(" + what + ")", x.status(what), want);
        }
        Check.dueAll("refusals", Check.refusals(x), 0, 0, 0, 0, 0, 0, 0);
        for (int s = -1; s <= 8; s++) {
            Check.due("holds", x.holds(s), -1);
            Check.due("element", x.element(s, 0), 0);
        }
        Check.due("fault", x.fault(), -1);
        Check.due("trace", x.trace(0), -1);
        Check.due("personOf", x.personOf(0, 0), -5);
    }

    private static void rows() {
        CarbonCopies x = new CarbonCopies();
        for (int sort = 0; sort < 4; sort++) {
            Check.due("row", x.row(7, sort, 160), 1);
            Check.due("holds", x.holds(7), 100 + sort);
        }
        Check.due("row of none", x.row(0, 0, 0), 1);
        Check.due("holds", x.holds(0), 100);
        Check.due("element of none", x.element(0, 0), 0);
        Check.due("set", x.set(7, 159, 5), 1);
        Check.due("a new row is empty", x.row(7, 3, 160), 1);
        Check.due("element", x.element(7, 159), 0);
        Check.due("set", x.set(7, 159, 5), 1);
        Check.due("row -1", x.row(-1, 4, -1), -1);
        Check.due("row -1", x.row(8, 0, 0), -1);
        Check.due("row -4 before -6", x.row(7, 4, -1), -4);
        Check.due("row -6 before -7", x.row(7, 4, 161), -6);
        Check.due("row -6", x.row(7, -1, 3), -6);
        Check.due("row -7", x.row(7, 3, 161), -7);
        Check.due("a refused row changes nothing", x.element(7, 159), 5);
        Check.due("holds", x.holds(7), 103);
        Check.dueAll("refusals", Check.refusals(x), 2, 0, 0, 1, 0, 2, 1);
        x.person(0, 0, 1);
        x.show(3, 0);
        Check.due("row over a person", x.row(3, 1, 2), 1);
        Check.due("holds", x.holds(3), 101);
    }

    private static void elements() {
        CarbonCopies x = new CarbonCopies();
        long v = 0x123456789abcdef0L;
        long[] kept = {(byte) v, (short) v, (int) v, v};
        for (int sort = 0; sort < 4; sort++) {
            x.row(sort, sort, 2);
            Check.due("set", x.set(sort, 1, v), 1);
            Check.due("element keeps its lowest bits", x.element(sort, 1), kept[sort]);
            Check.due("element", x.element(sort, 0), 0);
            x.set(sort, 0, 128 + 32768 + 2147483648L);
        }
        Check.due("byte", x.element(0, 0), -128);
        Check.due("short", x.element(1, 0), -32640);
        Check.due("int", x.element(2, 0), -2147450752L);
        Check.due("long", x.element(3, 0), 2147516544L);
        Check.due("element beyond", x.element(3, 2), 0);
        Check.due("element below", x.element(3, -1), 0);
        Check.due("element nowhere", x.element(8, 0), 0);
        x.person(0, 0, 1);
        x.show(6, 0);
        Check.due("element of a person", x.element(6, 0), 0);
        Check.due("set -1", x.set(8, 0, 1), -1);
        Check.due("set -1", x.set(-1, 0, 1), -1);
        Check.due("set -2", x.set(6, 5, 1), -2);
        Check.due("set -3", x.set(5, 5, 1), -3);
        Check.due("set -5", x.set(0, 2, 1), -5);
        Check.due("set -5", x.set(0, -1, 1), -5);
        Check.dueAll("element() refuses nothing", Check.refusals(x), 2, 1, 1, 0, 2, 0, 0);
    }

    private static void copies() {
        CarbonCopies x = new CarbonCopies();
        Check.ints(x, 0, 1, 2, 3, 4, 5);
        Check.ints(x, 1, 9, 9, 9);
        Check.due("copy", x.copy(0, 1, 3, 0, 2), 1);
        Check.due("element", x.element(1, 0), 4);
        Check.due("element", x.element(1, 1), 5);
        Check.due("element", x.element(1, 2), 9);
        Check.due("copy onto itself, down", x.copy(0, 0, 0, 1, 4), 1);
        for (int i = 1; i < 5; i++) {
            Check.due("as it was ahead", x.element(0, i), i);
        }
        Check.due("copy onto itself, up", x.copy(0, 0, 2, 1, 3), 1);
        Check.due("element", x.element(0, 1), 2);
        Check.due("element", x.element(0, 3), 4);
        Check.due("element", x.element(0, 4), 4);
        Check.due("copy of none at the end", x.copy(0, 1, 5, 3, 0), 1);
        x.row(2, 1, 5);
        x.person(0, 0, 1);
        x.show(3, 0);
        Check.due("copy -1", x.copy(8, 3, 0, 0, -1), -1);
        Check.due("copy -1", x.copy(3, -1, 0, 0, 1), -1);
        Check.due("copy -2 of a person", x.copy(3, 4, 0, 0, -1), -2);
        Check.due("copy -2 of a person", x.copy(4, 3, 0, 0, 1), -2);
        Check.due("copy -2 of two sorts", x.copy(0, 2, 9, 0, -1), -2);
        Check.due("copy -3", x.copy(4, 0, 0, 0, -1), -3);
        Check.due("copy -3", x.copy(0, 4, 0, 0, 1), -3);
        Check.due("copy -4", x.copy(0, 1, -1, 0, -1), -4);
        Check.due("copy -5", x.copy(0, 1, -1, 0, 1), -5);
        Check.due("copy -5", x.copy(0, 1, 0, -1, 1), -5);
        Check.due("copy -5", x.copy(0, 1, 4, 0, 2), -5);
        Check.due("copy -5", x.copy(0, 1, 0, 2, 2), -5);
        Check.due("copy -5", x.copy(0, 1, 6, 0, 0), -5);
        Check.due("copy -5", x.copy(0, 1, 0, 4, 0), -5);
        Check.due("copy -5", x.copy(0, 1, 2147483647, 0, 2147483647), -5);
        Check.due("copy -5", x.copy(0, 1, 0, 2147483647, 1), -5);
        Check.dueAll("refusals", Check.refusals(x), 2, 3, 2, 1, 8, 0, 0);
    }

    private static void shows() {
        CarbonCopies x = new CarbonCopies();
        Check.due("show -1", x.show(0, 0), -1);
        x.person(1, 2, 3);
        x.person(2, 2, 3);
        Check.due("show", x.show(0, 1), 1);
        Check.due("holds", x.holds(0), 1);
        Check.due("show -1", x.show(0, 2), -1);
        Check.due("show -1", x.show(0, -2), -1);
        Check.due("show -1", x.show(8, 0), -1);
        Check.due("show -1", x.show(-1, -1), -1);
        Check.due("holds", x.holds(0), 1);
        Check.due("show none", x.show(0, -1), 0);
        Check.due("holds", x.holds(0), -1);
        x.row(1, 0, 4);
        Check.due("show over a row", x.show(1, 0), 1);
        Check.due("holds", x.holds(1), 0);
        Check.due("show none", x.show(1, -1), 0);
        Check.due("set", x.set(1, 0, 0), -3);
        Check.due("status", x.status(11), 5);
    }

    private static void sayings() {
        CarbonCopies x = new CarbonCopies();
        int[] above = {-1, 0, 0, 2, 0, 4, 1};
        int[] kinds = {6, 5, 4, 3, 2, 1};
        int[] first = {0, 6, 5, 12, 12, 0};
        int[] last = {10, 6, 5, 24, 12, 10};
        for (int p = 0; p < 6; p++) {
            Check.due("person", x.person(kinds[p], 3, 10), p);
            Check.diesTimes(x, p, p);
            Check.due("show", x.show(p, p), 1);
            for (int kind = 0; kind < 7; kind++) {
                boolean under = kind == 0 || kind == kinds[p] || kind == above[kinds[p]];
                long said = kind == 0 ? 10 : kind == 1 || kind == 6 ? p : kind < 4 ? last[p] : first[p];
                Check.due("says " + kinds[p] + " as " + kind, x.says(p, kind), under ? said : -2);
            }
        }
        x.row(6, 0, 1);
        Check.due("says -1", x.says(8, 0), -1);
        Check.due("says -1", x.says(-1, 0), -1);
        Check.due("says -1", x.says(6, 7), -1);
        Check.due("says -1", x.says(7, -1), -1);
        Check.due("says -2", x.says(6, 0), -2);
        Check.due("says -3", x.says(7, 0), -3);
    }
}
