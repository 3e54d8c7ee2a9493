import java.lang.reflect.InvocationTargetException;
import java.lang.reflect.Method;
import java.lang.reflect.Modifier;
import java.util.ArrayList;
import java.util.Arrays;
import java.util.HashMap;
import java.util.List;
import java.util.Map;

/**
 * Runs of calls on a new object, told as texts: "press(0, 2, 60)", the same some times over: "dies(0) x6", a row of
 * ints put on a shelf: "ints 3: 5, 6", a text: "text 3: least 5" (of bytes; "text2 3: least 5" of sort 2).
 */
final class Run {
    /** What later calls answer is free, so no run may be longer. */
    private static final int MOST_CALLS = 512;
    private static final Map<String, Method> METHODS = new HashMap<>();

    /** A land in which something stands everywhere; 2 is the shelf that holds nothing. */
    private static final String[] LAND = {
        "person(0, 0, 10)", "person(6, 3, 5)", "press(0, 0, 50)", "press(0, 3, 99)", "press(1, 1, 70)", "rub(0, 1, 0)",
        "rub(1, 2, 1)", "dies(0)", "dies(0)", "dies(1)", "image()",
        "press(1, 7, 30)", "rub(1, 3, 7)", "dies(1)", "ask(12)", "seed(77)",
        "ints 0: 50, 7, 8", "show(1, 0)", "row(3, 3, 12)", "set(3, 11, 5000000000)", "row(4, 0, 160)",
        "set(4, 159, -7)", "row(5, 2, 41)", "text 6: least 0", "land(6)", "show(7, 1)", "act(1, 2, 9)"};

    private final CarbonCopies object = new CarbonCopies();
    private int calls = 0;
    private long latest = 0;

    static {
        for (Method method : CarbonCopies.class.getDeclaredMethods()) {
            if (Modifier.isPublic(method.getModifiers())) {
                METHODS.put(method.getName(), method);
            }
        }
    }

    /** What the last of the calls answers. */
    static void due(String why, long want, String... told) {
        Check.due(why + ": .. " + told[told.length - 1], of(told).latest, want);
    }

    /** On the land in which something stands everywhere the call is refused, and nothing but the count changes. */
    static void refused(String why, int want, String call) {
        refusedOn(LAND, why, want, call);
    }

    static void refusedOn(String[] land, String why, int want, String call) {
        Run with = of(land);
        Run without = of(land);
        with.tell(call);
        Check.due(why + ": " + call, with.latest, want);
        int counted = want <= -10000 ? want + 10000 : want <= -10 ? want + 10 : want;
        for (int code = -1; code >= -7; code--) {
            long more = with.answer("status", 10 - code) - without.answer("status", 10 - code);
            Check.due(why + ": " + call + ", counted as " + code, more, code == counted ? 1 : 0);
        }
        Check.due(why + ": " + call + " changes nothing", with.state().equals(without.state()) ? 1 : 0, 1);
    }

    /** Refused likewise, for each of several. */
    static void allRefused(String why, int want, String... told) {
        for (String call : told) {
            refused(why, want, call);
        }
    }

    static String[] join(String[] told, String... more) {
        String[] all = Arrays.copyOf(told, told.length + more.length);
        System.arraycopy(more, 0, all, told.length, more.length);
        return all;
    }

    /** A new HARD PERSON whose COPIES have each the DEEDS of a set: all get all, then it is rubbed. */
    static String[] having(int person, int... sets) {
        List<String> told = new ArrayList<>();
        told.add("person(4, 0, 1)");
        for (int deed = 0; deed < 8; deed++) {
            told.add("press(" + person + ", " + deed + ", 99)");
            for (int copy = 0; copy < 6; copy++) {
                if ((sets[copy] >> deed & 1) == 0) {
                    told.add("rub(" + person + ", " + copy + ", " + deed + ")");
                }
            }
        }
        return told.toArray(new String[0]);
    }

    static Run of(String... told) {
        Run run = new Run();
        for (String call : told) {
            run.tell(call);
        }
        return run;
    }

    void tell(String call) {
        int times = call.lastIndexOf(" x");
        if (call.startsWith("ints ")) {
            putInts(call);
        } else if (call.startsWith("text")) {
            putText(call);
        } else if (times > 0) {
            for (int i = Integer.parseInt(call.substring(times + 2)); i > 0; i--) {
                tell(call.substring(0, times));
            }
        } else {
            String[] args = call.substring(call.indexOf('(') + 1, call.indexOf(')')).split(", *");
            long[] given = new long[args[0].isEmpty() ? 0 : args.length];
            for (int i = 0; i < given.length; i++) {
                given[i] = Long.parseLong(args[i]);
            }
            latest = answer(call.substring(0, call.indexOf('(')), given);
        }
    }

    private void putInts(String call) {
        String[] values = call.substring(call.indexOf(':') + 2).split(", *");
        long s = Long.parseLong(call.substring(5, call.indexOf(':')));
        answer("row", s, 2, values.length);
        for (int i = 0; i < values.length; i++) {
            answer("set", s, i, Long.parseLong(values[i]));
        }
    }

    private void putText(String call) {
        String letters = call.substring(call.indexOf(':') + 2);
        long sort = call.charAt(4) == ' ' ? 0 : call.charAt(4) - '0';
        long s = Long.parseLong(call.substring(call.indexOf(' ') + 1, call.indexOf(':')));
        answer("row", s, sort, letters.length());
        for (int i = 0; i < letters.length(); i++) {
            answer("set", s, i, letters.charAt(i));
        }
    }

    long answer(String name, long... given) {
        calls++;
        if (calls > MOST_CALLS) {
            throw new IllegalStateException("more calls than an object is used for: " + name);
        }
        Method method = METHODS.get(name);
        Object[] args = new Object[given.length];
        for (int i = 0; i < args.length; i++) {
            boolean isLong = method.getParameterTypes()[i] == long.class;
            args[i] = isLong ? (Object) given[i] : (Object) Math.toIntExact(given[i]);
        }
        try {
            return ((Number) method.invoke(object, args)).longValue();
        } catch (InvocationTargetException | IllegalAccessException thrown) {
            throw new IllegalStateException(name + " threw", thrown);
        }
    }

    /** All that can be read of the object, and then what its image has. */
    private List<Long> state() {
        List<Long> all = new ArrayList<>();
        for (int s = 0; s < 8; s++) {
            long holds = answer("holds", s);
            all.add(holds);
            for (int i = 0; i < 7 && holds >= 100; i++) {
                all.add(answer("element", s, i < 5 ? i : i == 5 ? 11 : 159));
            }
        }
        all.add(answer("fault"));
        long bodies = answer("status", 6);
        for (int i = 0; i <= bodies; i++) {
            all.add(answer("trace", i));
        }
        addLand(all);
        long restored = answer("restore");
        all.add(restored);
        if (restored >= 0) {
            addLand(all);
        }
        return all;
    }

    private void addLand(List<Long> all) {
        for (int what = 0; what < 7; what++) {
            all.add(answer("status", what));
        }
        long persons = answer("status", 0);
        for (int p = 0; p < persons; p++) {
            for (int what = 0; what < 6; what++) {
                all.add(answer("personOf", p, what));
            }
            // Of more than two the sums must do, as no run may be too long.
            for (int copy = 0; copy < 6 && p < 2; copy++) {
                all.add(answer("copyOf", p, copy, 0));
                all.add(answer("drift", p, copy));
                for (int deed = 0; deed < 8; deed++) {
                    all.add(answer("strength", p, copy, deed));
                }
            }
        }
    }
}
