import java.lang.reflect.InvocationTargetException;
import java.lang.reflect.Method;
import java.util.ArrayList;
import java.util.Arrays;
import java.util.Comparator;
import java.util.HashMap;
import java.util.List;
import java.util.Map;
import java.util.Random;
import java.util.Set;
import java.util.TreeMap;

/**
 * "Answers below 0, where not told otherwise, are refusals; such a call changes nothing": every call by numbers at and
 * beyond the edges, on harbours of several kinds. It may not throw, answers as the Model, and if it is a refusal or a call
 * that only asks, everything must be as if it hadn't been.
 */
public final class RefusalsTest {
    private static final Check C = new Check("RefusalsTest");
    private static final int SAMPLES = 120;
    private static final int[] NUMBERS = {Integer.MIN_VALUE, -15, -2, -1, 0, 1, 2, 3, 4, 5, 6, 7, 8, 9, 10, 13, 14, 20, 21,
        30, 31, 39, 40, 41, 48, 49, 99, 100, 200, 999, 1000, Integer.MAX_VALUE - 1, Integer.MAX_VALUE};

    /** What only asks, whatever it answers. */
    private static final Set<String> ASKS = Set.of("lawOf", "ward", "street", "of", "takes", "tears", "month", "state",
            "plan", "stop", "fine", "lasts", "shoal", "pieces", "gives", "when", "odds", "hope", "row", "judge", "item",
            "taken", "trace", "many");

    /** What may answer below 0 without refusing. */
    private static final Set<String> NOT_REFUSED = Set.of("act", "seed");

    private static final Map<String, Method> REAL = new TreeMap<>();
    private static final Map<String, Method> MODEL = new HashMap<>();

    private static final class Call {
        final String name;
        final Object[] arguments;

        Call(String name, Object... arguments) {
            this.name = name;
            this.arguments = arguments;
        }

        long on(Map<String, Method> methods, Object target) {
            try {
                return ((Number) methods.get(name).invoke(target, arguments)).longValue();
            } catch (InvocationTargetException | IllegalAccessException e) {
                throw new IllegalStateException(this + " threw " + e.getCause(), e);
            }
        }

        @Override
        public String toString() {
            return name + Arrays.toString(arguments);
        }
    }

    private static void lay(List<Call> calls, String text) {
        for (int from = 0; from < text.length(); from += 8) {
            calls.add(new Call("feed", Check.eight(text, from), Math.min(8, text.length() - from)));
        }
    }

    /** All full: six boats, one torn, a ward whose quota is taken, rows, sheets of every sort, shelves, a trace, a tape. */
    private static List<Call> fullHarbour() {
        List<Call> calls = new ArrayList<>();
        for (int boat = 0; boat < 6; boat++) {
            calls.add(new Call("boat", boat, boat == 4 ? 9 : boat, boat, boat / 2));
        }
        for (int street = 0; street < 8; street++) {
            calls.add(new Call("sleep", street, street % 5, 10 * street + 9));
            calls.add(new Call("sleep", street, 4, 40));
        }
        calls.add(new Call("keep"));
        for (int boat = 0; boat < 6; boat++) {
            calls.add(new Call("haul", boat));
        }
        calls.add(new Call("quota", 0, 1));
        calls.add(new Call("bells", 2));
        calls.add(new Call("land", 1));
        calls.add(new Call("seed", -77));
        calls.add(new Call("set", 0, 30));
        calls.add(new Call("prove", 3, 3));
        calls.add(new Call("alterRow", 1, 1, 1000));
        things(calls);
        lay(calls, "wake 7;" + " ".repeat(190));
        return calls;
    }

    private static void things(List<Call> calls) {
        calls.add(new Call("sheet", 0, 0, 6));
        calls.add(new Call("sheet", 2, 2, 2));
        calls.add(new Call("sheet", 3, 3, 0));
        for (int i = 0; i < 6; i++) {
            calls.add(new Call("put", 0, i, 60 * i - 90));
        }
        calls.add(new Call("put", 2, 0, 19));
        calls.add(new Call("shelf", 0, 0, 4));
        calls.add(new Call("shelf", 1, 1, 2));
        calls.add(new Call("shelf", 3, 0, 0));
        calls.add(new Call("act", 0, 3, 9));
    }

    private static List<Call> newHarbour() {
        return new ArrayList<>();
    }

    /** Shelves hold what is there no more, and the tape ends where more must come. */
    private static List<Call> harbourAnew() {
        List<Call> calls = new ArrayList<>(fullHarbour().subList(0, 22));
        things(calls);
        lay(calls, "tug 3 at 4 mesh 5;street 4 school 50;quota 2 0;");
        calls.add(new Call("harbour"));
        calls.add(new Call("prove", 4, 1));
        lay(calls, "wake 7;wake");
        return calls;
    }

    private static Object argument(Class<?> type, Random random) {
        int number = NUMBERS[random.nextInt(NUMBERS.length)];
        if (random.nextInt(3) == 0) {
            number = random.nextInt(10);
        }
        return type == long.class ? (Object) Long.valueOf(number * 0x100000001L) : (Object) Integer.valueOf(number);
    }

    private static Call anyCall(String name, Random random) {
        Class<?>[] types = REAL.get(name).getParameterTypes();
        Object[] arguments = new Object[types.length];
        for (int i = 0; i < types.length; i++) {
            arguments[i] = argument(types[i], random);
        }
        return new Call(name, arguments);
    }

    private static DreamNets realOf(List<Call> calls) {
        DreamNets x = new DreamNets();
        for (Call call : calls) {
            call.on(REAL, x);
        }
        return x;
    }

    private static Model modelOf(List<Call> calls) {
        Model x = new Model();
        for (Call call : calls) {
            call.on(MODEL, x);
        }
        return x;
    }

    private static void tryAll(String which, List<Call> calls) {
        String was = Snapshot.inFull(realOf(calls));
        Random random = new Random(which.length());
        Map<String, Integer> refused = new TreeMap<>();
        for (String name : REAL.keySet()) {
            int samples = REAL.get(name).getParameterCount() == 0 ? 1 : SAMPLES;
            for (int i = 0; i < samples; i++) {
                Call call = anyCall(name, random);
                DreamNets x = realOf(calls);
                long got = call.on(REAL, x);
                C.due(which + ": " + call, got, call.on(MODEL, modelOf(calls)));
                boolean refusal = got < 0 && !NOT_REFUSED.contains(name);
                if (refusal && !name.equals("harbour") || ASKS.contains(name)) {
                    refused.merge(name, 1, Integer::sum);
                    C.holds(which + ": " + call + " answered " + got + " and changed something",
                            Snapshot.inFull(x).equals(was));
                }
            }
        }
        C.holds(which + ": refusals of " + refused.size() + " calls", refused.size() >= 42);
    }

    private static void harbourThatIsRefused() {
        List<Call> calls = harbourAnew();
        DreamNets x = realOf(calls);
        C.due("harbour()", x.harbour(), -111);
        String is = Snapshot.of(x);
        String was = Snapshot.of(realOf(calls)).replace("bytes=11 ", "bytes=0 ");
        C.holds("harbour() changed more than the tape", is.equals(was));
    }

    /** Otherwise the snapshots would prove nothing. */
    private static void snapshotsDiffer() {
        List<Call> calls = fullHarbour();
        String was = Snapshot.inFull(realOf(calls));
        C.holds("the same calls lead to the same", was.equals(Snapshot.inFull(realOf(calls))));
        Call[] changes = {new Call("set", 1, 9), new Call("price", 4, 3), new Call("quota", 3, 5), new Call("sleep", 7, 0, 5),
            new Call("sleep", 7, 5, 5), new Call("mind", 5, 5, 0), new Call("move", 0, 7), new Call("mesh", 0, 9),
            new Call("patch", 4), new Call("haul", 2), new Call("free", 2, 2), new Call("land", 0), new Call("bells", 1),
            new Call("seed", 5), new Call("night"), new Call("prove", 3, 2), new Call("alterRow", 2, 2, 9),
            new Call("minds", 0, 0, 0, 1), new Call("sheet", 1, 0, 0), new Call("put", 2, 1, 5), new Call("shelf", 2, 0, 1),
            new Call("act", 0, 0, 9), new Call("keep"), new Call("again"), new Call("harbour"), new Call("feed", 0L, 3)};
        for (Call change : changes) {
            DreamNets x = realOf(calls);
            change.on(REAL, x);
            C.holds(change + " isn't seen", !Snapshot.inFull(x).equals(was));
        }
    }

    public static void main(String[] args) {
        List<Method> methods = new ArrayList<>(List.of(DreamNets.class.getDeclaredMethods()));
        methods.sort(Comparator.comparing(Method::getName));
        for (Method m : methods) {
            if (java.lang.reflect.Modifier.isPublic(m.getModifiers())) {
                REAL.put(m.getName(), m);
            }
        }
        for (Method m : Model.class.getMethods()) {
            MODEL.put(m.getName(), m);
        }
        C.due("calls of the face", REAL.size(), 51);
        tryAll("a new harbour", newHarbour());
        tryAll("a full harbour", fullHarbour());
        tryAll("a harbour anew", harbourAnew());
        harbourThatIsRefused();
        snapshotsDiffer();
        C.end();
    }
}
