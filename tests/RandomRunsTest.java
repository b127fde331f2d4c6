import java.lang.reflect.InvocationTargetException;
import java.lang.reflect.Method;
import java.util.ArrayList;
import java.util.Arrays;
import java.util.Comparator;
import java.util.HashMap;
import java.util.List;
import java.util.Map;
import java.util.Random;

/** Runs of calls with settled seeds, on DreamNets and on the Model, whose answers must be the same. */
public final class RandomRunsTest {
    private static final int CALLS = 512;

    /** For each call the ranges of its arguments; null stands for any int. */
    private static final Map<String, int[][]> RANGES = new HashMap<>();
    private static final int[] BOAT = {0, 5}, STREET = {0, 7}, SORT = {0, 4}, WARD = {0, 3}, SHEET = {0, 3};
    private static final int[] KIND = {0, 5}, DIGIT = {0, 9}, PART = {0, 1}, ANY = null;

    /** What sets all back is called more seldom, so that something comes together. */
    private static final List<String> RARE =
            List.of("harbour", "feed", "again", "keep", "lawOf", "odds", "set", "price", "land", "quota");

    private static void range(String name, int[]... ranges) {
        RANGES.put(name, ranges);
    }

    private static void ranges() {
        range("set", new int[] {0, 2}, new int[] {0, 25});
        range("lawOf", new int[] {0, 2});
        range("price", SORT, new int[] {1, 30});
        range("quota", WARD, new int[] {0, 999});
        range("ward", WARD, new int[] {0, 2});
        range("street", STREET, new int[] {0, 7});
        range("sleep", STREET, new int[] {0, 5}, new int[] {0, 99});
        range("boat", KIND, DIGIT, STREET, DIGIT);
        range("of", BOAT, new int[] {0, 10});
        range("mind", BOAT, KIND, DIGIT);
        range("move", BOAT, STREET);
        range("mesh", BOAT, DIGIT);
        range("patch", BOAT);
        range("takes", BOAT, SORT);
        range("tears", BOAT);
        range("haul", BOAT);
        range("free", BOAT, SORT);
        range("land", BOAT);
        range("bells", new int[] {1, 6});
        range("cast", BOAT);
        range("seed", ANY);
        range("night");
        range("month", new int[] {1, 30}, new int[] {0, 120});
        range("state", new int[] {0, 5});
        range("plan", BOAT, new int[] {0, 4});
        range("stop", BOAT, new int[] {0, 4}, new int[] {0, 3});
        range("fine", BOAT, new int[] {1, 9}, PART);
        range("lasts");
        range("shoal", SHEET, PART);
        range("pieces", SORT, new int[] {0, 60});
        range("gives");
        range("when", STREET, SORT, new int[] {0, 99});
        range("odds", new int[] {0, 8}, PART);
        range("hope", BOAT, new int[] {0, 5}, PART);
        range("prove", STREET, new int[] {1, 10});
        range("row", DIGIT, new int[] {0, 2});
        range("alterRow", DIGIT, new int[] {0, 2}, ANY);
        range("judge", STREET);
        range("minds", SHEET, new int[] {0, 8}, STREET, new int[] {0, 5});
        range("sheet", SHEET, new int[] {-1, 3}, new int[] {-1, 41});
        range("put", SHEET, new int[] {0, 12}, ANY);
        range("item", SHEET, new int[] {0, 3}, new int[] {0, 12});
        range("shelf", SHEET, new int[] {0, 2}, BOAT);
        range("taken", SHEET, new int[] {0, 13});
        range("act", SHEET, new int[] {0, 3}, ANY);
        range("trace", new int[] {0, 11});
        range("many", new int[] {0, 6});
        range("keep");
        range("again");
    }

    private static int anyInt(Random random) {
        switch (random.nextInt(4)) {
            case 0:
                return random.nextInt();
            case 1:
                return random.nextInt(41) - 20;
            case 2:
                return random.nextInt(100);
            default:
                return random.nextInt(600) - 300;
        }
    }

    private static int argument(Random random, int[] range, int boats, boolean ordinary) {
        if (range == ANY) {
            return anyInt(random);
        }
        if (!ordinary && random.nextInt(3) == 0) {
            int[] far = {range[0] - 1, range[1] + 1, -1, Integer.MIN_VALUE, Integer.MAX_VALUE, anyInt(random)};
            return far[random.nextInt(far.length)];
        }
        if (range == BOAT && boats > 0 && random.nextInt(8) != 0) {
            return random.nextInt(boats);
        }
        return range[0] + random.nextInt(range[1] - range[0] + 1);
    }

    private static String text(Random random) {
        String[] kinds = {"boat", "seiner", "drifter", "tug", "dredger", "poacher"};
        String[] sorts = {"flying", "falling", "teeth", "school", "nightmare"};
        StringBuilder text = new StringBuilder();
        int parts = random.nextInt(8);
        for (int i = 0; i < parts; i++) {
            String sort = sorts[random.nextInt(5)];
            String[] part;
            switch (random.nextInt(6)) {
                case 0:
                case 1:
                    part = new String[] {kinds[random.nextInt(6)], n(random, 9), "at", n(random, 7), "mesh", n(random, 9)};
                    break;
                case 2:
                    part = new String[] {"street", n(random, 7), sort, n(random, 99)};
                    break;
                case 3:
                    part = new String[] {"street", n(random, 7), "sleepers", n(random, 9)};
                    break;
                case 4:
                    part = new String[] {"price", sort, n(random, 30)};
                    break;
                default:
                    part = random.nextBoolean() ? new String[] {"quota", n(random, 3), n(random, 999)}
                            : new String[] {"wake", n(random, 99)};
                    break;
            }
            for (String word : part) {
                text.append(word).append(random.nextInt(12) == 0 ? "" : " ".repeat(1 + random.nextInt(8) / 7));
            }
            text.append(';').append(random.nextInt(3) == 0 ? " " : "");
        }
        if (random.nextInt(3) == 0 && text.length() > 0) {
            int place = random.nextInt(text.length());
            String signs = " ;0123456789abz\n{`A/:\u0000\u00ff";
            switch (random.nextInt(4)) {
                case 0:
                    text.setCharAt(place, signs.charAt(random.nextInt(signs.length())));
                    break;
                case 1:
                    text.insert(place, signs.charAt(random.nextInt(signs.length())));
                    break;
                case 2:
                    text.deleteCharAt(place);
                    break;
                default:
                    text.setLength(place);
                    break;
            }
        }
        return text.length() > 200 ? text.substring(0, 200) : text.toString();
    }

    private static String n(Random random, int most) {
        int v = random.nextInt(most + 1 + (random.nextInt(12) == 0 ? 3 : 0));
        return random.nextInt(9) == 0 ? "0" + v : "" + v;
    }

    private final DreamNets real = new DreamNets();
    private final Model model = new Model();
    private final Random random;
    private final Map<String, Integer> met;
    private final StringBuilder log = new StringBuilder();
    private int calls;
    /** Each run leaves some calls nearly out, so that runs are not all alike. */
    private final List<String> seldom = new ArrayList<>();

    private RandomRunsTest(long seed, Map<String, Integer> met) {
        random = new Random(seed);
        this.met = met;
    }

    /** Whether both answer alike. */
    private boolean alike(Method call, Method same, Object... arguments) {
        calls++;
        try {
            long got = ((Number) call.invoke(real, arguments)).longValue();
            long want = ((Number) same.invoke(model, arguments)).longValue();
            String line = call.getName() + Arrays.toString(arguments) + " answered " + got + ", due is " + want;
            log.append(line).append('\n');
            String kind = call.getName() + (want < 0 ? " " + Math.max(want, -100) : "");
            met.merge(kind, 1, Integer::sum);
            return got == want;
        } catch (InvocationTargetException | IllegalAccessException e) {
            log.append(call.getName()).append(Arrays.toString(arguments)).append(" threw ").append(e.getCause());
            return false;
        }
    }

    private boolean runsAlike(List<Method> methods, Map<String, Method> same) {
        for (Method m : methods) {
            if (random.nextInt(3) == 0) {
                seldom.add(m.getName());
            }
        }
        while (calls < CALLS) {
            Method call = methods.get(random.nextInt(methods.size()));
            String name = call.getName();
            boolean so = true;
            if ((RARE.contains(name) || seldom.contains(name)) && random.nextInt(8) != 0) {
                continue;
            }
            if (name.equals("harbour") || name.equals("feed")) {
                so = tellsAlike(same);
            } else if (name.equals("shoal") && random.nextInt(3) == 0) {
                so = plantsShoal(same);
            } else if (name.equals("act") && random.nextInt(3) == 0) {
                so = actsInFull(same);
            } else if (name.equals("pieces") && random.nextInt(3) != 0) {
                so = seeksPieces(call, same);
            } else {
                int[][] ranges = RANGES.get(name);
                Object[] arguments = new Object[ranges.length];
                boolean ordinary = random.nextInt(10) != 0;
                int boats = model.many(0);
                for (int i = 0; i < ranges.length; i++) {
                    arguments[i] = argument(random, ranges[i], boats, ordinary);
                }
                so = alike(call, same.get(name), arguments);
            }
            if (!so) {
                return false;
            }
        }
        return true;
    }

    /** Puts on a sheet how a stock will be, or nearly so. */
    private boolean plantsShoal(Map<String, Method> same) {
        int sheet = random.nextInt(4);
        int street = random.nextInt(8);
        int sort = random.nextInt(5);
        int n = random.nextInt(6);
        boolean so = named("sheet", same, sheet, random.nextInt(4), n);
        int[] numbers = model.stocksOf(street, sort, n);
        for (int i = 0; i < n && so; i++) {
            so = named("put", same, sheet, i, numbers[i] + (random.nextInt(30) == 0 ? 1 : 0));
        }
        return so && named("shoal", same, sheet, 0) && named("shoal", same, sheet, 1);
    }

    private boolean actsInFull(Map<String, Method> same) {
        int shelf = random.nextInt(4);
        boolean so = named("shelf", same, shelf, 0, random.nextInt(6));
        so = so && named("taken", same, shelf, random.nextInt(6));
        so = so && named("act", same, shelf, random.nextInt(4), anyInt(random)) && named("many", same, 6);
        for (int i = 0; i <= model.many(6) && so; i++) {
            so = named("trace", same, i);
        }
        return so;
    }

    private boolean seeksPieces(Method call, Map<String, Method> same) {
        int sort = random.nextInt(5);
        int v = 0;
        for (int boat = 0; boat < model.many(0); boat++) {
            v += random.nextBoolean() ? model.of(boat, 5 + sort) : 0;
        }
        return alike(call, same.get("pieces"), sort, v);
    }

    private boolean named(String name, Map<String, Method> same, Object... arguments) {
        for (Method m : DreamNets.class.getMethods()) {
            if (m.getName().equals(name)) {
                return alike(m, same.get(name), arguments);
            }
        }
        return false;
    }

    private boolean tellsAlike(Map<String, Method> same) {
        try {
            Method feed = DreamNets.class.getMethod("feed", long.class, int.class);
            Method harbour = DreamNets.class.getMethod("harbour");
            String text = text(random);
            for (int from = 0; from < text.length();) {
                int n = Math.min(1 + random.nextInt(8), text.length() - from);
                long eight = random.nextLong();
                for (int i = n - 1; i >= 0; i--) {
                    eight = eight << 8 | text.charAt(from + i) & 255;
                }
                from += n;
                if (!alike(feed, same.get("feed"), eight, random.nextInt(400) == 0 ? 9 : n)) {
                    return false;
                }
            }
            return random.nextInt(20) == 0 || alike(harbour, same.get("harbour"));
        } catch (NoSuchMethodException e) {
            return false;
        }
    }

    public static void main(String[] args) {
        int runs = args.length > 0 ? Integer.parseInt(args[0]) : 400;
        long first = args.length > 1 ? Long.parseLong(args[1]) : 1;
        ranges();
        List<Method> methods = new ArrayList<>();
        Map<String, Method> same = new HashMap<>();
        for (Method m : DreamNets.class.getDeclaredMethods()) {
            if (java.lang.reflect.Modifier.isPublic(m.getModifiers())) {
                methods.add(m);
            }
        }
        for (Method m : Model.class.getMethods()) {
            same.put(m.getName(), m);
        }
        methods.sort(Comparator.comparing(Method::getName));
        Check check = new Check("RandomRunsTest");
        Map<String, Integer> met = new HashMap<>();
        for (long seed = first; seed < first + runs; seed++) {
            RandomRunsTest run = new RandomRunsTest(seed, met);
            boolean so = run.runsAlike(methods, same);
            check.holds("run " + seed, so);
            if (!so) {
                System.out.println(run.log);
                break;
            }
        }
        if (args.length > 2) {
            met.entrySet().stream().sorted(Map.Entry.comparingByKey()).forEach(System.out::println);
        }
        check.end();
    }
}
