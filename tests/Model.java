import java.math.BigInteger;
import java.util.ArrayList;
import java.util.Arrays;
import java.util.List;
import java.util.regex.Matcher;
import java.util.regex.Pattern;

/** The document once more, written as plainly as can be and without regard to LANGUAGE.md: what RandomRunsTest compares with. */
public final class Model {
    private static final List<String> KINDS = List.of("boat", "seiner", "drifter", "tug", "dredger", "poacher");
    private static final List<String> SORTS = List.of("flying", "falling", "teeth", "school", "nightmare");
    private static final int[] SIZE = {2, 3, 1, 5, 8};

    private static final class Vessel {
        int kind, m, at, mesh, torn;
        int[] holds = new int[5];

        Vessel copy() {
            Vessel c = new Vessel();
            c.kind = kind;
            c.m = m;
            c.at = at;
            c.mesh = mesh;
            c.torn = torn;
            c.holds = holds.clone();
            return c;
        }
    }

    private static final class Harbour {
        int[] laws = {10, 8, 4};
        int[] prices = {9, 4, 2, 6, 12};
        int[][] stock = new int[8][5];
        int[] sleepers = {3, 3, 3, 3, 3, 3, 3, 3};
        int[] lacks = new int[8];
        int[] quota = {999, 999, 999, 999};
        int[] taken = new int[4];
        List<Vessel> boats = new ArrayList<>();
        int bell, coins, z = 1;

        Harbour copy() {
            Harbour c = new Harbour();
            c.laws = laws.clone();
            c.prices = prices.clone();
            for (int s = 0; s < 8; s++) {
                c.stock[s] = stock[s].clone();
            }
            c.sleepers = sleepers.clone();
            c.lacks = lacks.clone();
            c.quota = quota.clone();
            c.taken = taken.clone();
            for (Vessel v : boats) {
                c.boats.add(v.copy());
            }
            c.bell = bell;
            c.coins = coins;
            c.z = z;
            return c;
        }

        int takes(Vessel v, int sort) {
            int have = stock[v.at][sort];
            int quarter = have / 4;
            int t = quarter;
            if (v.kind == 1) {
                t = 2 * quarter;
            } else if (v.kind == 2) {
                t = quarter + v.m;
            } else if (v.kind == 3) {
                t = sort == 2 ? 0 : 2 * quarter;
            } else if (v.kind == 4) {
                t = 2 * (quarter + v.m);
            } else if (v.kind == 5 && sort == v.m % 5) {
                t = have;
            }
            return t > have ? have : t;
        }

        static int tears(Vessel v) {
            return new int[] {1, 0, 2, v.mesh < 3 ? 1 : 0, 2 + v.m, 0}[v.kind];
        }

        boolean may(Vessel v) {
            return v.torn < 9 && taken[v.at / 2] < quota[v.at / 2];
        }

        /** {how much, worth}, or null if it may not. */
        int[] haul(Vessel v) {
            if (!may(v)) {
                return null;
            }
            int much = 0;
            int worth = 0;
            for (int sort = 0; sort < 5; sort++) {
                if (SIZE[sort] < v.mesh) {
                    continue;
                }
                int t = takes(v, sort);
                stock[v.at][sort] -= t;
                v.holds[sort] += t;
                lacks[v.at] += t;
                taken[v.at / 2] += t;
                much += t;
                worth += t * prices[sort];
                if (sort == 4 && t > 0) {
                    v.torn = Math.min(9, v.torn + tears(v));
                }
            }
            return new int[] {much, worth};
        }

        int worthOfHaul(Vessel v) {
            int[] h = haul(v);
            return h == null ? 0 : h[1];
        }

        void bellGoes() {
            for (int s = 0; s < 8; s++) {
                for (int sort = 0; sort < 5; sort++) {
                    int more = stock[s][sort] / laws[1];
                    if (sort == bell % 5) {
                        more += sleepers[s];
                    }
                    stock[s][sort] = Math.min(99, stock[s][sort] + more);
                }
            }
            int[] were = new int[8];
            for (int s = 0; s < 8; s++) {
                were[s] = stock[s][0];
            }
            for (int s = 0; s < 8; s++) {
                int ahead = s == 0 ? 7 : s - 1;
                stock[s][0] = Math.min(99, were[s] - were[s] / laws[2] + were[ahead] / laws[2]);
            }
            bell++;
        }

        int draw() {
            z = z * 1103515245 + 12345;
            return z >>> 16;
        }

        int cast(Vessel v) {
            int d = draw();
            if (d % 100 < laws[0]) {
                return 0;
            }
            int[] h = haul(v);
            return h == null ? 0 : h[0];
        }

        int night() {
            int all = 0;
            for (Vessel v : boats) {
                v.at = draw() % 8;
                all += cast(v);
            }
            bellGoes();
            return all;
        }

        int all(int s) {
            return Arrays.stream(stock[s]).sum();
        }

        int empties() {
            int set = 0;
            for (int s = 0; s < 8; s++) {
                if (all(s) == 0) {
                    set += 1 << s;
                }
            }
            return set;
        }

        int[] rowOf(int s) {
            int most = 4;
            for (int sort = 3; sort >= 0; sort--) {
                if (stock[s][sort] >= stock[s][most]) {
                    most = sort;
                }
            }
            return new int[] {all(s), stock[s][0], most};
        }

        int worthHeld(Vessel v) {
            int w = 0;
            for (int sort = 0; sort < 5; sort++) {
                w += prices[sort] * v.holds[sort];
            }
            return w;
        }
    }

    private static final class Fault extends Exception {
        final int place;

        Fault(int place) {
            this.place = place;
        }
    }

    private static final class Parted extends Exception {
    }

    private Harbour h = new Harbour();
    private Harbour kept;
    private StringBuilder tape = new StringBuilder();
    private List<int[]> rows = new ArrayList<>();
    private final Object[] sheets = new Object[4];
    private final Object[] shelves = new Object[4];
    private List<Integer> trace = new ArrayList<>();

    private Vessel vessel(int boat) {
        return boat >= 0 && boat < h.boats.size() ? h.boats.get(boat) : null;
    }

    private static boolean in(int v, int low, int high) {
        return low <= v && v <= high;
    }

    public int feed(long eight, int n) {
        if (!in(n, 1, 8)) {
            return -1;
        }
        if (tape.length() + n > 200) {
            return -2;
        }
        for (int i = 0; i < n; i++) {
            tape.append((char) (eight & 0xff));
            eight >>= 8;
        }
        return tape.length();
    }

    private List<String> words;
    private List<Integer> places;
    private int word;

    private String next() throws Fault {
        if (word == words.size()) {
            throw new Fault(places.get(word));
        }
        return words.get(word++);
    }

    private Fault here() {
        return new Fault(places.get(word - 1));
    }

    private int number(int low, int high) throws Fault {
        String w = next();
        if (!w.matches("[0-9]{1,3}") || !in(Integer.parseInt(w), low, high)) {
            throw here();
        }
        return Integer.parseInt(w);
    }

    private void just(String due) throws Fault {
        if (!next().equals(due)) {
            throw here();
        }
    }

    private Harbour parse(String text) throws Fault {
        words = new ArrayList<>();
        places = new ArrayList<>();
        Matcher m = Pattern.compile("[a-z]+|[0-9]+|[^ ]", Pattern.DOTALL).matcher(text);
        while (m.find()) {
            words.add(m.group());
            places.add(m.start());
        }
        places.add(text.length());
        word = 0;
        Harbour g = new Harbour();
        while (word < words.size()) {
            String w = next();
            if (KINDS.contains(w)) {
                if (g.boats.size() == 6) {
                    throw here();
                }
                Vessel v = new Vessel();
                v.kind = KINDS.indexOf(w);
                v.m = number(0, 9);
                just("at");
                v.at = number(0, 7);
                just("mesh");
                v.mesh = number(0, 9);
                g.boats.add(v);
            } else if (w.equals("street")) {
                int s = number(0, 7);
                String what = next();
                if (what.equals("sleepers")) {
                    g.sleepers[s] = number(0, 9);
                } else if (SORTS.contains(what)) {
                    g.stock[s][SORTS.indexOf(what)] = number(0, 99);
                } else {
                    throw here();
                }
            } else if (w.equals("price")) {
                String what = next();
                if (!SORTS.contains(what)) {
                    throw here();
                }
                g.prices[SORTS.indexOf(what)] = number(1, 30);
            } else if (w.equals("quota")) {
                int ward = number(0, 3);
                g.quota[ward] = number(0, 999);
            } else if (w.equals("wake")) {
                g.laws[0] = number(0, 99);
            } else {
                throw here();
            }
            just(";");
        }
        return g;
    }

    public int harbour() {
        String text = tape.toString();
        tape = new StringBuilder();
        try {
            Harbour g = parse(text);
            g.z = h.z;
            h = g;
        } catch (Fault f) {
            return -100 - f.place;
        }
        rows = new ArrayList<>();
        return h.boats.size();
    }

    public int set(int law, int v) {
        if (!(law == 0 && in(v, 0, 99) || (law == 1 || law == 2) && in(v, 1, 20))) {
            return -1;
        }
        int was = h.laws[law];
        h.laws[law] = v;
        return was;
    }

    public int lawOf(int law) {
        return in(law, 0, 2) ? h.laws[law] : -1;
    }

    public int price(int sort, int v) {
        if (!in(sort, 0, 4) || !in(v, 1, 30)) {
            return -1;
        }
        int was = h.prices[sort];
        h.prices[sort] = v;
        return was;
    }

    public int quota(int ward, int v) {
        if (!in(ward, 0, 3) || !in(v, 0, 999)) {
            return -1;
        }
        int was = h.quota[ward];
        h.quota[ward] = v;
        return was;
    }

    public int ward(int ward, int what) {
        if (!in(ward, 0, 3) || !in(what, 0, 2)) {
            return -1;
        }
        return new int[] {h.quota[ward], h.taken[ward], h.sleepers[2 * ward] + h.sleepers[2 * ward + 1]}[what];
    }

    public int street(int s, int what) {
        if (!in(s, 0, 7) || !in(what, 0, 7)) {
            return -1;
        }
        return what < 5 ? h.stock[s][what] : what == 5 ? h.sleepers[s] : what == 6 ? h.lacks[s] : h.all(s);
    }

    public int sleep(int s, int what, int v) {
        if (!in(s, 0, 7) || !(in(what, 0, 4) && in(v, 0, 99) || what == 5 && in(v, 0, 9))) {
            return -1;
        }
        int was = street(s, what);
        if (what == 5) {
            h.sleepers[s] = v;
        } else {
            h.stock[s][what] = v;
        }
        return was;
    }

    public int boat(int kind, int m, int street, int mesh) {
        if (!in(kind, 0, 5) || !in(m, 0, 9) || !in(street, 0, 7) || !in(mesh, 0, 9)) {
            return -1;
        }
        if (h.boats.size() == 6) {
            return -2;
        }
        Vessel v = new Vessel();
        v.kind = kind;
        v.m = m;
        v.at = street;
        v.mesh = mesh;
        h.boats.add(v);
        return h.boats.size() - 1;
    }

    public int of(int boat, int what) {
        Vessel v = vessel(boat);
        if (v == null || !in(what, 0, 10)) {
            return -1;
        }
        if (what == 10) {
            return h.worthHeld(v);
        }
        return what < 5 ? new int[] {v.kind, v.m, v.at, v.mesh, v.torn}[what] : v.holds[what - 5];
    }

    public int mind(int boat, int kind, int m) {
        Vessel v = vessel(boat);
        if (v == null || !in(kind, 0, 5) || !in(m, 0, 9)) {
            return -1;
        }
        int was = v.kind;
        v.kind = kind;
        v.m = m;
        return was;
    }

    public int move(int boat, int street) {
        Vessel v = vessel(boat);
        if (v == null || !in(street, 0, 7)) {
            return -1;
        }
        int was = v.at;
        v.at = street;
        return was;
    }

    public int mesh(int boat, int mesh) {
        Vessel v = vessel(boat);
        if (v == null || !in(mesh, 0, 9)) {
            return -1;
        }
        int was = v.mesh;
        v.mesh = mesh;
        return was;
    }

    public int patch(int boat) {
        Vessel v = vessel(boat);
        if (v == null) {
            return -1;
        }
        int was = v.torn;
        v.torn = 0;
        return was;
    }

    public int takes(int boat, int sort) {
        Vessel v = vessel(boat);
        return v == null || !in(sort, 0, 4) ? -1 : h.takes(v, sort);
    }

    public int tears(int boat) {
        Vessel v = vessel(boat);
        return v == null ? -1 : Harbour.tears(v);
    }

    public int haul(int boat) {
        Vessel v = vessel(boat);
        if (v == null) {
            return -1;
        }
        int[] got = h.haul(v);
        return got == null ? -4 : got[0];
    }

    public int free(int boat, int sort) {
        Vessel v = vessel(boat);
        if (v == null || !in(sort, 0, 4)) {
            return -1;
        }
        int held = v.holds[sort];
        v.holds[sort] = 0;
        h.stock[v.at][sort] = Math.min(99, held + h.stock[v.at][sort]);
        return held;
    }

    public int land(int boat) {
        Vessel v = vessel(boat);
        if (v == null) {
            return -1;
        }
        int worth = h.worthHeld(v);
        h.coins += worth;
        v.holds = new int[5];
        return worth;
    }

    public int bells(int n) {
        if (!in(n, 1, 48)) {
            return -1;
        }
        while (n-- > 0) {
            h.bellGoes();
        }
        return h.bell;
    }

    public int cast(int boat) {
        Vessel v = vessel(boat);
        return v == null ? -1 : h.cast(v);
    }

    public int seed(int v) {
        int was = h.z;
        h.z = v;
        return was;
    }

    public int night() {
        return h.night();
    }

    public int month(int n, int v) {
        if (!in(n, 1, 30) || !in(v, 0, 999)) {
            return -1;
        }
        int nights = 0;
        int z = h.z;
        while (n-- > 0) {
            Harbour t = h.copy();
            t.z = z;
            nights += t.night() >= v ? 1 : 0;
            z = t.z;
        }
        return nights;
    }

    public int state(int what) {
        int sum = 0;
        switch (what) {
            case 0: return h.bell;
            case 1: return h.coins;
            case 2:
                for (int s = 0; s < 8; s++) {
                    sum += h.all(s);
                }
                return sum;
            case 3:
                for (Vessel v : h.boats) {
                    sum += Arrays.stream(v.holds).sum();
                }
                return sum;
            case 4: return h.empties();
            case 5:
                for (int b = 0; b < h.boats.size(); b++) {
                    sum += h.may(h.boats.get(b)) ? 1 << b : 0;
                }
                return sum;
            default: return -1;
        }
    }

    /** All ways are listed in full; the best is sought afterwards. {worth, streets ..}. */
    private int[] bestWay(int boat, int n) {
        List<int[]> ways = new ArrayList<>();
        for (int code = 0; code < (int) Math.round(Math.pow(3, n)); code++) {
            Harbour t = h.copy();
            Vessel v = t.boats.get(boat);
            int[] way = new int[n + 1];
            int rest = code;
            for (int i = 1; i <= n; i++) {
                v.at = (v.at + rest % 3 + 7) % 8;
                rest /= 3;
                way[i] = v.at;
                way[0] += t.worthOfHaul(v);
                t.bellGoes();
            }
            ways.add(way);
        }
        ways.sort((a, b) -> {
            if (a[0] != b[0]) {
                return Integer.compare(b[0], a[0]);
            }
            return Arrays.compare(a, b);
        });
        return ways.get(0);
    }

    public int plan(int boat, int n) {
        return vessel(boat) == null || !in(n, 0, 4) ? -1 : bestWay(boat, n)[0];
    }

    public int stop(int boat, int n, int i) {
        if (vessel(boat) == null || !in(n, 0, 4) || !in(i, 0, 3)) {
            return -1;
        }
        return i < n ? bestWay(boat, n)[i + 1] : -3;
    }

    public int fine(int boat, int n, int what) {
        if (vessel(boat) == null || !in(n, 1, 9) || !in(what, 0, 1)) {
            return -1;
        }
        int[] worth = new int[10];
        for (int mesh = 0; mesh < 10; mesh++) {
            Harbour t = h.copy();
            t.boats.get(boat).mesh = mesh;
            for (int i = 0; i < n; i++) {
                worth[mesh] += t.worthOfHaul(t.boats.get(boat));
                t.bellGoes();
            }
        }
        int most = Arrays.stream(worth).max().getAsInt();
        for (int mesh = 9; mesh >= 0; mesh--) {
            if (worth[mesh] == most) {
                return what == 0 ? mesh : most;
            }
        }
        throw new IllegalStateException();
    }

    public int lasts() {
        Harbour t = h.copy();
        int bells = 0;
        while (t.empties() == 0) {
            if (++bells > 48) {
                return -3;
            }
            for (Vessel v : t.boats) {
                t.haul(v);
            }
            t.bellGoes();
        }
        return bells;
    }

    private static int lengthOf(Object row) {
        return java.lang.reflect.Array.getLength(row);
    }

    private static int sortOf(Object row) {
        return row instanceof byte[] ? 0 : row instanceof short[] ? 1 : row instanceof int[] ? 2 : 3;
    }

    public int shoal(int sheet, int what) {
        if (!in(sheet, 0, 3) || !in(what, 0, 1)) {
            return -1;
        }
        Object row = sheets[sheet];
        if (row == null) {
            return -11;
        }
        List<Integer> pairs = new ArrayList<>();
        for (int s = 0; s < 8; s++) {
            for (int sort = 0; sort < 5; sort++) {
                Harbour t = h.copy();
                boolean so = true;
                for (int i = 0; i < lengthOf(row) && so; i++) {
                    so = java.lang.reflect.Array.getLong(row, i) == t.stock[s][sort];
                    t.bellGoes();
                }
                if (so) {
                    pairs.add(10 * s + sort);
                }
            }
        }
        return what == 0 ? pairs.size() : pairs.isEmpty() ? -3 : pairs.get(0);
    }

    /** For RandomRunsTest: a stock behind 0, 1, .. bells. */
    int[] stocksOf(int street, int sort, int n) {
        int[] stocks = new int[n];
        Harbour t = h.copy();
        for (int i = 0; i < n; i++) {
            stocks[i] = t.stock[street][sort];
            t.bellGoes();
        }
        return stocks;
    }

    public int pieces(int sort, int v) {
        if (!in(sort, 0, 4) || !in(v, 0, 999)) {
            return -1;
        }
        for (int size = 0; size <= h.boats.size(); size++) {
            for (int set = 0; set < 64; set++) {
                int sum = 0;
                int count = 0;
                boolean there = true;
                for (int b = 0; b < 6; b++) {
                    if ((set & 1 << b) != 0) {
                        count++;
                        if (b >= h.boats.size()) {
                            there = false;
                        } else {
                            sum += h.boats.get(b).holds[sort];
                        }
                    }
                }
                if (there && count == size && sum == v) {
                    return set;
                }
            }
        }
        return -3;
    }

    public int gives() {
        int best = 3;
        for (int w = 2; w >= 0; w--) {
            BigInteger mine = BigInteger.valueOf(h.taken[w]).multiply(BigInteger.valueOf(Math.max(1, ward(best, 2))));
            BigInteger its = BigInteger.valueOf(h.taken[best]).multiply(BigInteger.valueOf(Math.max(1, ward(w, 2))));
            if (mine.compareTo(its) >= 0) {
                best = w;
            }
        }
        return best;
    }

    public int when(int s, int sort, int v) {
        if (!in(s, 0, 7) || !in(sort, 0, 4) || !in(v, 0, 99)) {
            return -1;
        }
        Harbour t = h.copy();
        for (int n = 0; n <= 48; n++, t.bellGoes()) {
            if (t.stock[s][sort] >= v) {
                return n;
            }
        }
        return -3;
    }

    private static long part(BigInteger above, BigInteger below, int part) {
        BigInteger by = above.gcd(below);
        return (part == 0 ? above : below).divide(by).longValueExact();
    }

    public long odds(int n, int part) {
        if (!in(n, 0, 8) || !in(part, 0, 1)) {
            return -1;
        }
        BigInteger all = BigInteger.valueOf(100).pow(n);
        return part(all.subtract(BigInteger.valueOf(h.laws[0]).pow(n)), all, part);
    }

    /** By 100 ^ left times what is hoped for. */
    private BigInteger hopeOf(Harbour g, int boat, int left) {
        if (left == 0) {
            return BigInteger.ZERO;
        }
        BigInteger wake = BigInteger.valueOf(g.laws[0]);
        BigInteger nothing = hopeOf(g, boat, left - 1);
        Harbour t = g.copy();
        int worth = t.worthOfHaul(t.boats.get(boat));
        BigInteger hauled = hopeOf(t, boat, left - 1)
                .add(BigInteger.valueOf(worth).multiply(BigInteger.valueOf(100).pow(left - 1)));
        return nothing.multiply(wake).add(hauled.multiply(BigInteger.valueOf(100).subtract(wake)));
    }

    public long hope(int boat, int n, int part) {
        if (vessel(boat) == null || !in(n, 0, 5) || !in(part, 0, 1)) {
            return -1;
        }
        return part(hopeOf(h, boat, n), BigInteger.valueOf(100).pow(n), part);
    }

    public int prove(int s, int n) {
        if (!in(s, 0, 7) || !in(n, 1, 10)) {
            return -1;
        }
        rows = trueRows(s, n);
        return n;
    }

    private List<int[]> trueRows(int s, int n) {
        List<int[]> all = new ArrayList<>();
        Harbour t = h.copy();
        for (int i = 0; i < n; i++) {
            t.bellGoes();
            all.add(t.rowOf(s));
        }
        return all;
    }

    public int row(int i, int what) {
        return in(i, 0, rows.size() - 1) && in(what, 0, 2) ? rows.get(i)[what] : -9;
    }

    public int alterRow(int i, int what, int v) {
        int was = row(i, what);
        if (in(i, 0, rows.size() - 1) && in(what, 0, 2)) {
            rows.get(i)[what] = v;
        }
        return was;
    }

    public int judge(int s) {
        if (!in(s, 0, 7)) {
            return -1;
        }
        List<int[]> due = trueRows(s, rows.size());
        for (int i = 0; i < due.size(); i++) {
            if (!Arrays.equals(due.get(i), rows.get(i))) {
                return i + 1;
            }
        }
        return 0;
    }

    public int minds(int sheet, int i, int s, int n) {
        if (!in(sheet, 0, 3) || !in(s, 0, 7) || !in(n, 0, 5)) {
            return -1;
        }
        if (sheets[sheet] == null) {
            return -11;
        }
        if (!(sheets[sheet] instanceof byte[] bytes)) {
            return -13;
        }
        if (!in(i, 0, bytes.length) || (long) i + n > bytes.length) {
            return -12;
        }
        for (int k = 0; k < n; k++) {
            h.stock[s][k] = bytes[i + k] < 0 ? 0 : bytes[i + k] > 99 ? 99 : bytes[i + k];
        }
        return n;
    }

    public int sheet(int sheet, int sort, int n) {
        if (!in(sheet, 0, 3) || !in(sort, -1, 3) || sort >= 0 && n > 40) {
            return -1;
        }
        if (sort >= 0 && n < 0) {
            return -14;
        }
        switch (sort) {
            case 0: sheets[sheet] = new byte[n]; break;
            case 1: sheets[sheet] = new short[n]; break;
            case 2: sheets[sheet] = new int[n]; break;
            case 3: sheets[sheet] = new long[n]; break;
            default: sheets[sheet] = null;
        }
        return 1;
    }

    public int put(int sheet, int i, int v) {
        if (!in(sheet, 0, 3)) {
            return -1;
        }
        Object row = sheets[sheet];
        if (row == null) {
            return -11;
        }
        if (!in(i, 0, lengthOf(row) - 1)) {
            return -12;
        }
        if (row instanceof byte[] b) {
            b[i] = (byte) v;
        } else if (row instanceof short[] s) {
            s[i] = (short) v;
        } else if (row instanceof int[] n) {
            n[i] = v;
        } else {
            ((long[]) row)[i] = v;
        }
        return 1;
    }

    public int item(int sheet, int sort, int i) {
        if (!in(sheet, 0, 3) || !in(sort, 0, 3)) {
            return -1;
        }
        Object row = sheets[sheet];
        if (row == null) {
            return -11;
        }
        if (sortOf(row) != sort) {
            return -13;
        }
        return in(i, 0, lengthOf(row) - 1) ? (int) java.lang.reflect.Array.getLong(row, i) : -12;
    }

    public int shelf(int shelf, int what, int n) {
        if (!in(shelf, 0, 3) || !in(what, 0, 2)) {
            return -1;
        }
        if (what == 0 && vessel(n) == null || what == 1 && !in(n, 0, 3)) {
            return -1;
        }
        shelves[shelf] = what == 0 ? Integer.valueOf(n) : what == 1 ? sheets[n] : null;
        return 1;
    }

    private Object onShelf(int shelf) {
        return shelves[shelf] instanceof Integer n && vessel(n) == null ? null : shelves[shelf];
    }

    public int taken(int shelf, int as) {
        if (!in(shelf, 0, 3) || !in(as, 0, 5) && !in(as, 10, 13)) {
            return -1;
        }
        Object thing = onShelf(shelf);
        if (thing == null) {
            return -11;
        }
        if (thing instanceof Integer n) {
            return as < 6 && List.of(List.of(0), List.of(0, 1), List.of(0, 2), List.of(0, 1, 3), List.of(0, 2, 4),
                    List.of(0, 5)).get(vessel(n).kind).contains(as) ? n : -13;
        }
        return as == 10 + sortOf(thing) ? lengthOf(thing) : -13;
    }

    /** The bodies by a table of kinds: from is the kind whose body is sought first, kind the thing's own. */
    private int body(int from, int act, int kind, int n, int a, int x) throws Parted {
        int up = new int[] {0, 0, 0, 1, 2, 0}[from];
        int number = 100 * from + act;
        switch (number) {
            case 0:
                trace.add(10);
                return x - n;
            case 1:
                trace.add(11);
                return body(kind, 0, kind, n, a, x) * 3;
            case 2:
                trace.add(12);
                if (n == a) {
                    throw new Parted();
                }
                return (int) ((long) x / (n - a));
            case 3:
                trace.add(13);
                return body(kind, 1, kind, n, a, x) + a;
            case 101:
                trace.add(20);
                return body(up, 1, kind, n, a, x) - n;
            case 200:
                trace.add(30);
                return body(up, 0, kind, n, a, x) ^ a;
            case 203: {
                trace.add(31);
                int left = body(up, 3, kind, n, a, x);
                return left + body(kind, 2, kind, n, a, a);
            }
            case 400:
                trace.add(40);
                return body(up, 0, kind, n, a, x) * 2;
            case 401: {
                trace.add(41);
                int left = body(up, 1, kind, n, a, x);
                return left - body(kind, 0, kind, n, a, n);
            }
            case 302:
                trace.add(50);
                return body(up, 2, kind, n, a, x + 5) * 2;
            case 300:
                trace.add(51);
                return body(up, 0, kind, n, a, x) + n;
            case 503:
                trace.add(60);
                return 7 - body(up, 3, kind, n, a, x);
            case 502: {
                trace.add(61);
                int left = body(up, 2, kind, n, a, x);
                return left ^ body(kind, 0, kind, n, a, a);
            }
            default:
                return body(up, act, kind, n, a, x);
        }
    }

    public int act(int shelf, int act, int x) {
        trace = new ArrayList<>();
        if (!in(shelf, 0, 3) || !in(act, 0, 3) || !(onShelf(shelf) instanceof Integer n)) {
            return 0;
        }
        Vessel v = vessel(n);
        try {
            return body(v.kind, act, v.kind, n, v.m, x);
        } catch (Parted p) {
            return -15;
        }
    }

    public int trace(int i) {
        return in(i, 0, Math.min(30, trace.size()) - 1) ? trace.get(i) : -3;
    }

    public int many(int what) {
        int count = 0;
        switch (what) {
            case 0: return h.boats.size();
            case 1:
                for (Vessel v : h.boats) {
                    count += v.torn >= 9 ? 1 : 0;
                }
                return count;
            case 2: return Arrays.stream(h.sleepers).sum();
            case 3:
                for (int w = 0; w < 4; w++) {
                    count += h.quota[w] <= h.taken[w] ? 1 : 0;
                }
                return count;
            case 4: return rows.size();
            case 5: return tape.length();
            case 6: return Math.min(30, trace.size());
            default: return -1;
        }
    }

    public int keep() {
        kept = h.copy();
        return 1;
    }

    public int again() {
        if (kept == null) {
            return -3;
        }
        h = kept.copy();
        return h.boats.size();
    }
}
