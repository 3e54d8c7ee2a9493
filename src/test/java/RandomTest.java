import java.lang.reflect.InvocationTargetException;
import java.lang.reflect.Method;
import java.lang.reflect.Modifier;
import java.util.ArrayList;
import java.util.Comparator;
import java.util.List;

/** Runs of calls, the same ones each time, that the class and Model are to answer alike; none may throw. */
public final class RandomTest {
    private static final int RUNS = 2500;
    /** What later calls answer is free, so those that compare at last are among them. */
    private static final int CALLS = 512;
    private static final int AT_LAST = 91;

    private static final List<Method> CLASS_METHODS = new ArrayList<>();
    private static final List<Method> MODEL_METHODS = new ArrayList<>();

    private static long state;
    private static int made;
    private static CarbonCopies x;
    private static Model y;
    private static String latest = "";

    public static void main(String[] args) throws ReflectiveOperationException {
        for (Method method : CarbonCopies.class.getDeclaredMethods()) {
            if (Modifier.isPublic(method.getModifiers())) {
                CLASS_METHODS.add(method);
            }
        }
        CLASS_METHODS.sort(Comparator.comparing(Method::getName));
        for (Method method : CLASS_METHODS) {
            MODEL_METHODS.add(Model.class.getMethod(method.getName(), method.getParameterTypes()));
        }
        for (int run = 0; run < RUNS; run++) {
            oneRun(run);
        }
        Check.end("RandomTest");
    }

    private static int below(int n) {
        state = state * 6364136223846793005L + 1442695040888963407L;
        return (int) ((state >>> 33) % n);
    }

    private static void oneRun(int run) throws ReflectiveOperationException {
        state = run * 7919L + 17;
        x = new CarbonCopies();
        y = new Model();
        made = 0;
        latest = "run " + run;
        int starters = below(7);
        for (int i = 0; i < starters; i++) {
            call("person", below(7), below(10), 1 + below(below(3) == 0 ? 20 : 8));
        }
        while (made < CALLS - AT_LAST - 10) {
            int what = below(40);
            if (what == 0) {
                tellText();
            } else if (what == 1) {
                tellLife();
            } else if (what == 2) {
                tellStrengths();
            } else if (what < 9) {
                call("press", below(6), below(4), 1 + below(99));
            } else if (what < 11) {
                call("rub", below(6), below(6), below(4));
            } else {
                anyCall(CLASS_METHODS.get(below(CLASS_METHODS.size())));
            }
        }
        compareAll();
        Check.due(latest + ", no more calls than an object is used for", made <= CALLS ? 1 : 0, 1);
    }

    private static void anyCall(Method method) throws ReflectiveOperationException {
        Class<?>[] types = method.getParameterTypes();
        if ((method.getName().equals("dies") || method.getName().equals("years")) && below(3) != 0) {
            return;
        }
        long[] args = new long[types.length];
        for (int i = 0; i < args.length; i++) {
            args[i] = types[i] == long.class ? anyLong() : anyInt();
        }
        if (method.getName().equals("ask") && below(2) == 0) {
            args[0] = 1 + below(40);
        }
        call(method.getName(), args);
    }

    private static long anyLong() {
        int what = below(4);
        return what == 0 ? state : what == 1 ? below(100) : what == 2 ? 10000 + below(21000) : anyInt();
    }

    private static int anyInt() {
        int what = below(40);
        if (what < 26) {
            return below(6);
        }
        if (what < 33) {
            return below(11) - 2;
        }
        if (what < 37) {
            return below(170) - 3;
        }
        int[] wild = {2147483647, -2147483648, -1, 2147483640, 65536, -100};
        return what == 37 ? wild[below(wild.length)] : what == 38 ? (int) (state >> 20) : below(8);
    }

    private static void tellRow(int sort, long[] values, String reader) throws ReflectiveOperationException {
        int s = below(8);
        if (made + values.length + 5 > CALLS - AT_LAST) {
            return;
        }
        call("row", s, sort, values.length);
        for (int i = 0; i < values.length; i++) {
            call("set", s, i, values[i]);
        }
        if (reader.equals("land")) {
            call("land", s);
            call("fault");
        } else if (reader.equals("life")) {
            int n = below(4) == 0 ? below(values.length + 2) : values.length;
            call("judge", s, n);
            call("behind", s, n, below(3));
            if (below(2) == 0) {
                call("done", s, n);
            }
        } else {
            int n = below(5) == 0 ? below(10) : 1 + below(Math.max(1, values.length));
            call("which", s, n, below(22), below(4) - 1);
            call("which", s, n, 20, -1);
            call("next", s, n, below(21));
            call("next", s, n, 20);
        }
    }

    private static String number(int mostly) {
        int what = below(12);
        int value = what < 10 ? below(mostly) : below(100);
        return what == 0 && value < 10 ? "0" + value : "" + value;
    }

    private static void tellText() throws ReflectiveOperationException {
        StringBuilder text = new StringBuilder();
        int items = 1 + below(5);
        for (int i = 0; i < items; i++) {
            text.append(i == 0 ? "" : ";");
            switch (below(6)) {
                case 0:
                    text.append("person ").append(number(7)).append(' ').append(number(10)).append(' ');
                    text.append(number(21));
                    break;
                case 1:
                case 2:
                    text.append("press ").append(number(4)).append(' ').append(number(8)).append(' ');
                    text.append(number(100));
                    break;
                case 3:
                    text.append("rub ").append(number(4)).append(' ').append(number(6)).append(' ').append(number(8));
                    break;
                case 4:
                    text.append("dies ").append(number(4));
                    break;
                default:
                    text.append("least ").append(number(60));
                    break;
            }
        }
        if (below(3) == 0) {
            text.setCharAt(below(text.length()), "pers ;0129x".charAt(below(11)));
        }
        if (below(5) == 0) {
            text.setLength(below(text.length()));
        }
        if (below(8) == 0) {
            text.insert(below(text.length() + 1), "pers ;0129x".charAt(below(11)));
        }
        long[] values = new long[text.length()];
        int sort = below(4);
        for (int i = 0; i < values.length; i++) {
            values[i] = text.charAt(i) + (below(60) == 0 ? (long) below(9) << 32 : 0L);
        }
        tellRow(sort, values, "land");
    }

    private static void tellLife() throws ReflectiveOperationException {
        long[] values = new long[below(42)];
        int persons = Math.max(1, (int) call("status", 0) + (below(10) == 0 ? 1 : 0));
        for (int i = 0; i < values.length; i++) {
            int what = below(8);
            int person = below(persons);
            if (what < 5) {
                values[i] = 10000 + 1000 * person + 100 * below(8) + 1 + below(99);
            } else if (what < 7) {
                values[i] = 20000 + 1000 * person + 100 * (below(3) == 0 ? below(6) : 5) + below(8);
            } else {
                values[i] = below(3) == 0 ? 30000 + person : 10000 + 1000 * person + 50;
            }
            values[i] += below(150) == 0 ? below(1000) - 500 : 0;
        }
        tellRow(1 + below(3), values, "life");
    }

    private static void tellStrengths() throws ReflectiveOperationException {
        long[] values = new long[below(10)];
        int person = below(6);
        int copy = below(6);
        for (int i = 0; i < values.length; i++) {
            int strength = (int) call("strength", person, copy, i);
            values[i] = below(6) == 0 ? below(99) : strength + below(3) - 1;
        }
        tellRow(below(4), values, "strengths");
    }

    private static long call(String name, long... args) throws ReflectiveOperationException {
        for (int m = 0; m < CLASS_METHODS.size(); m++) {
            Method method = CLASS_METHODS.get(m);
            if (!method.getName().equals(name)) {
                continue;
            }
            made++;
            Object[] given = new Object[args.length];
            StringBuilder told = new StringBuilder(name).append('(');
            for (int i = 0; i < args.length; i++) {
                boolean isLong = method.getParameterTypes()[i] == long.class;
                given[i] = isLong ? (Object) args[i] : (Object) (int) args[i];
                told.append(i == 0 ? "" : ", ").append(args[i]);
            }
            told.append(')');
            long want = ((Number) MODEL_METHODS.get(m).invoke(y, given)).longValue();
            try {
                Check.due(latest + ", call " + made + ", " + told, ((Number) method.invoke(x, given)).longValue(), want);
            } catch (InvocationTargetException thrown) {
                Check.due(latest + ", " + told + " threw " + thrown.getCause(), 0, 1);
            }
            return want;
        }
        throw new IllegalStateException("no such call: " + name);
    }

    private static void compareAll() throws ReflectiveOperationException {
        for (int what = 0; what <= 18; what++) {
            call("status", what);
        }
        for (int person = 0; person < 6; person++) {
            for (int what = 3; what <= 5; what++) {
                call("personOf", person, what);
            }
            call("all", person);
            call("straight", person, 0);
            call("straight", person, 1);
            for (int copy = 0; copy < 6; copy++) {
                call("copyOf", person, copy, 1);
            }
        }
    }
}
