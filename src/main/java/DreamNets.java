/** Trawlers for dreams: streets of sleepers, boats with nets, and what is asked of them. */
public final class DreamNets {
    public static final int BAD = -1, FULL = -2, NONE = -3, STATE = -4;

    private static final int NO_ROW = -9, MISSING = -11, OUTSIDE = -12, OTHER_SORT = -13;
    private static final int BELOW_ZERO = -14, PARTED_BY_ZERO = -15;

    private static final int SORTS = 5, STREETS = 8, WARDS = 4, BOATS = 6, KINDS = 6;
    private static final int WAKE = 0, BREED = 1, DRIFT = 2;
    private static final int FLYING = 0, TEETH = 2, NIGHTMARE = 4;
    private static final int MOST_STOCK = 99, MOST_SLEEPERS = 9, MOST_QUOTA = 999;
    private static final int MOST_M = 9, MOST_MESH = 9, MOST_TORN = 9, MOST_PRICE = 30;
    private static final int MOST_BELLS = 48, MOST_STEPS = 4, MOST_ROWS = 10, ROW_PARTS = 3;
    private static final int TAPE_BYTES = 200, TRACE_BODIES = 30;
    private static final int SHEETS = 4, SHELVES = 4, MOST_ITEMS = 40, LONGS = 3;
    private static final int NO_BOAT = -1;

    private static final int[] SIZES = {2, 3, 1, 5, 8};
    private static final int[] FIRST_PRICES = {9, 4, 2, 6, 12};
    private static final int[] FIRST_LAWS = {10, 8, 4};
    private static final int[] LEAST_LAWS = {0, 1, 1};
    private static final int[] MOST_LAWS = {99, 20, 20};

    private final World now;
    private final World kept;
    private final World trial;
    private final Search search;
    private final Tape tape = new Tape();
    private final Acting acting = new Acting();
    private final Sheet[] sheets = new Sheet[SHEETS];
    private final int[] shelfBoats = new int[SHELVES];
    private final Sheet[] shelfSheets = new Sheet[SHELVES];
    private final int[] rows = new int[MOST_ROWS * ROW_PARTS];
    private final boolean[] fits = new boolean[STREETS * SORTS];
    private int rowCount;
    private boolean hasKept;

    public DreamNets() {
        Boat[] kinds = boatsOfEachKind();
        now = new World(kinds);
        kept = new World(kinds);
        trial = new World(kinds);
        search = new Search(kinds);
        for (int shelf = 0; shelf < SHELVES; shelf++) {
            shelfBoats[shelf] = NO_BOAT;
        }
    }

    private static Boat[] boatsOfEachKind() {
        Boat[] kinds = new Boat[KINDS];
        kinds[0] = new Boat();
        kinds[1] = new Seiner();
        kinds[2] = new Drifter();
        kinds[3] = new Tug();
        kinds[4] = new Dredger();
        kinds[5] = new Poacher();
        return kinds;
    }

    // ---- the tape ----

    public int feed(long eight, int n) {
        if (outside(n, 1, 8)) {
            return BAD;
        }
        if (tape.end + n > TAPE_BYTES) {
            return FULL;
        }
        for (int i = 0; i < n; i++) {
            tape.add((int) (eight >>> (8 * i)) & 255);
        }
        return tape.end;
    }

    public int harbour() {
        trial.startAnew();
        trial.z = now.z;
        boolean told = tape.tells(trial);
        tape.end = 0;
        if (!told) {
            return -100 - tape.start;
        }
        now.copyFrom(trial);
        rowCount = 0;
        return now.boats;
    }

    // ---- laws, prices, quotas, streets ----

    public int set(int law, int v) {
        if (outside(law, WAKE, DRIFT) || outside(v, LEAST_LAWS[law], MOST_LAWS[law])) {
            return BAD;
        }
        return exchange(now.laws, law, v);
    }

    public int lawOf(int law) {
        return outside(law, WAKE, DRIFT) ? BAD : now.laws[law];
    }

    public int price(int sort, int v) {
        if (noSort(sort) || outside(v, 1, MOST_PRICE)) {
            return BAD;
        }
        return exchange(now.prices, sort, v);
    }

    public int quota(int ward, int v) {
        if (noWard(ward) || outside(v, 0, MOST_QUOTA)) {
            return BAD;
        }
        return exchange(now.quotas, ward, v);
    }

    public int ward(int ward, int what) {
        if (noWard(ward)) {
            return BAD;
        }
        switch (what) {
            case 0:
                return now.quotas[ward];
            case 1:
                return now.takenIn[ward];
            case 2:
                return now.sleepersIn(ward);
            default:
                return BAD;
        }
    }

    public int street(int street, int what) {
        if (noStreet(street) || outside(what, 0, 7)) {
            return BAD;
        }
        switch (what) {
            case 5:
                return now.sleepers[street];
            case 6:
                return now.lacks[street];
            case 7:
                return now.stockIn(street);
            default:
                return now.stock[street * SORTS + what];
        }
    }

    public int sleep(int street, int what, int v) {
        if (noStreet(street) || outside(what, 0, SORTS)) {
            return BAD;
        }
        if (outside(v, 0, what == SORTS ? MOST_SLEEPERS : MOST_STOCK)) {
            return BAD;
        }
        if (what == SORTS) {
            return exchange(now.sleepers, street, v);
        }
        return exchange(now.stock, street * SORTS + what, v);
    }

    // ---- boats ----

    public int boat(int kind, int m, int street, int mesh) {
        if (noKind(kind) || outside(m, 0, MOST_M) || noStreet(street) || outside(mesh, 0, MOST_MESH)) {
            return BAD;
        }
        if (now.boats >= BOATS) {
            return FULL;
        }
        return now.addBoat(kind, m, street, mesh);
    }

    public int of(int boat, int what) {
        if (noBoat(boat) || outside(what, 0, 10)) {
            return BAD;
        }
        switch (what) {
            case 0:
                return now.kind[boat];
            case 1:
                return now.m[boat];
            case 2:
                return now.at[boat];
            case 3:
                return now.mesh[boat];
            case 4:
                return now.torn[boat];
            case 10:
                return now.worthHeld(boat);
            default:
                return now.holds[boat * SORTS + what - 5];
        }
    }

    public int mind(int boat, int kind, int m) {
        if (noBoat(boat) || noKind(kind) || outside(m, 0, MOST_M)) {
            return BAD;
        }
        now.m[boat] = m;
        return exchange(now.kind, boat, kind);
    }

    public int move(int boat, int street) {
        if (noBoat(boat) || noStreet(street)) {
            return BAD;
        }
        return exchange(now.at, boat, street);
    }

    public int mesh(int boat, int v) {
        if (noBoat(boat) || outside(v, 0, MOST_MESH)) {
            return BAD;
        }
        return exchange(now.mesh, boat, v);
    }

    public int patch(int boat) {
        return noBoat(boat) ? BAD : exchange(now.torn, boat, 0);
    }

    public int takes(int boat, int sort) {
        return noBoat(boat) || noSort(sort) ? BAD : now.takeOf(boat, sort);
    }

    public int tears(int boat) {
        return noBoat(boat) ? BAD : now.tearOf(boat);
    }

    public int haul(int boat) {
        if (noBoat(boat)) {
            return BAD;
        }
        return now.mayHaul(boat) ? now.drag(boat) : STATE;
    }

    public int free(int boat, int sort) {
        if (noBoat(boat) || noSort(sort)) {
            return BAD;
        }
        int held = exchange(now.holds, boat * SORTS + sort, 0);
        int place = now.at[boat] * SORTS + sort;
        now.stock[place] = Math.min(MOST_STOCK, now.stock[place] + held);
        return held;
    }

    public int land(int boat) {
        if (noBoat(boat)) {
            return BAD;
        }
        int worth = now.worthHeld(boat);
        now.coins += worth;
        for (int sort = 0; sort < SORTS; sort++) {
            now.holds[boat * SORTS + sort] = 0;
        }
        return worth;
    }

    public int bells(int n) {
        if (outside(n, 1, MOST_BELLS)) {
            return BAD;
        }
        for (int i = 0; i < n; i++) {
            now.ring();
        }
        return now.bell;
    }

    // ---- draws ----

    public int cast(int boat) {
        return noBoat(boat) ? BAD : now.castNet(boat);
    }

    public int seed(int v) {
        int was = now.z;
        now.z = v;
        return was;
    }

    public int night() {
        return now.nightByDraws();
    }

    public int month(int n, int v) {
        if (outside(n, 1, 30) || outside(v, 0, 999)) {
            return BAD;
        }
        int z = now.z;
        int nights = 0;
        for (int i = 0; i < n; i++) {
            trial.copyFrom(now);
            trial.z = z;
            if (trial.nightByDraws() >= v) {
                nights++;
            }
            z = trial.z;
        }
        return nights;
    }

    public int state(int what) {
        switch (what) {
            case 0:
                return now.bell;
            case 1:
                return now.coins;
            case 2:
                return sum(now.stock, STREETS * SORTS);
            case 3:
                return sum(now.holds, now.boats * SORTS);
            case 4:
                return now.emptyStreets();
            case 5:
                return boatsThatMay();
            default:
                return BAD;
        }
    }

    // ---- plans: what is tried and changes nothing ----

    public int plan(int boat, int n) {
        if (noBoat(boat) || outside(n, 0, MOST_STEPS)) {
            return BAD;
        }
        findWay(boat, n);
        return search.bestWorth;
    }

    public int stop(int boat, int n, int i) {
        if (noBoat(boat) || outside(n, 0, MOST_STEPS) || outside(i, 0, MOST_STEPS - 1)) {
            return BAD;
        }
        if (i >= n) {
            return NONE;
        }
        findWay(boat, n);
        return search.bestWay[i];
    }

    public int fine(int boat, int n, int what) {
        if (noBoat(boat) || outside(n, 1, 9) || outside(what, 0, 1)) {
            return BAD;
        }
        int bestMesh = 0;
        int bestWorth = 0;
        for (int mesh = 0; mesh <= MOST_MESH; mesh++) {
            int worth = worthByMesh(boat, mesh, n);
            if (worth >= bestWorth) {
                bestMesh = mesh;
                bestWorth = worth;
            }
        }
        return what == 0 ? bestMesh : bestWorth;
    }

    public int lasts() {
        trial.copyFrom(now);
        for (int bells = 0; bells <= MOST_BELLS; bells++) {
            if (trial.emptyStreets() != 0) {
                return bells;
            }
            for (int boat = 0; boat < trial.boats; boat++) {
                trial.drag(boat);
            }
            trial.ring();
        }
        return NONE;
    }

    public int shoal(int sheet, int what) {
        if (noSheet(sheet) || outside(what, 0, 1)) {
            return BAD;
        }
        if (sheets[sheet] == null) {
            return MISSING;
        }
        findShoal(sheets[sheet]);
        return what == 0 ? countFits() : firstFit();
    }

    public int pieces(int sort, int v) {
        if (noSort(sort) || outside(v, 0, 999)) {
            return BAD;
        }
        int best = NONE;
        for (int set = 0; set < 1 << now.boats; set++) {
            boolean fewer = best == NONE || Integer.bitCount(set) < Integer.bitCount(best);
            if (fewer && now.heldBySet(set, sort) == v) {
                best = set;
            }
        }
        return best;
    }

    public int gives() {
        int best = 0;
        for (int ward = 1; ward < WARDS; ward++) {
            // by the other's sleepers each, so that no fraction is cut
            long here = (long) now.takenIn[ward] * Math.max(1, now.sleepersIn(best));
            long there = (long) now.takenIn[best] * Math.max(1, now.sleepersIn(ward));
            if (here > there) {
                best = ward;
            }
        }
        return best;
    }

    public int when(int street, int sort, int v) {
        if (noStreet(street) || noSort(sort) || outside(v, 0, MOST_STOCK)) {
            return BAD;
        }
        trial.copyFrom(now);
        for (int bells = 0; bells <= MOST_BELLS; bells++) {
            if (trial.stock[street * SORTS + sort] >= v) {
                return bells;
            }
            trial.ring();
        }
        return NONE;
    }

    public long odds(int n, int part) {
        if (outside(n, 0, 8) || outside(part, 0, 1)) {
            return BAD;
        }
        long all = power(100, n);
        return partOf(all - power(now.laws[WAKE], n), all, part);
    }

    public long hope(int boat, int n, int part) {
        if (noBoat(boat) || outside(n, 0, 5) || outside(part, 0, 1)) {
            return BAD;
        }
        int wake = now.laws[WAKE];
        long sum = 0;
        long worth = 0;
        long choices = 1;
        trial.copyFrom(now);
        for (int hauls = 0; hauls <= n; hauls++) {
            sum += worth * choices * power(100 - wake, hauls) * power(wake, n - hauls);
            choices = choices * (n - hauls) / (hauls + 1);
            worth += trial.worthOfDrag(boat);
        }
        return partOf(sum, power(100, n), part);
    }

    // ---- rows of bells ----

    public int prove(int street, int n) {
        if (noStreet(street) || outside(n, 1, MOST_ROWS)) {
            return BAD;
        }
        trial.copyFrom(now);
        for (int i = 0; i < n; i++) {
            trial.ring();
            for (int what = 0; what < ROW_PARTS; what++) {
                rows[i * ROW_PARTS + what] = trial.rowPart(street, what);
            }
        }
        rowCount = n;
        return n;
    }

    public int row(int i, int what) {
        return noRow(i, what) ? NO_ROW : rows[i * ROW_PARTS + what];
    }

    public int alterRow(int i, int what, int v) {
        return noRow(i, what) ? NO_ROW : exchange(rows, i * ROW_PARTS + what, v);
    }

    public int judge(int street) {
        if (noStreet(street)) {
            return BAD;
        }
        trial.copyFrom(now);
        for (int i = 0; i < rowCount; i++) {
            trial.ring();
            for (int what = 0; what < ROW_PARTS; what++) {
                if (rows[i * ROW_PARTS + what] != trial.rowPart(street, what)) {
                    return i + 1;
                }
            }
        }
        return 0;
    }

    // ---- sheets and shelves ----

    public int minds(int sheet, int i, int street, int n) {
        if (noSheet(sheet) || noStreet(street) || outside(n, 0, SORTS)) {
            return BAD;
        }
        Sheet bytes = sheets[sheet];
        if (bytes == null) {
            return MISSING;
        }
        if (bytes.sort != 0) {
            return OTHER_SORT;
        }
        if (outside(i, 0, bytes.items.length) || n > bytes.items.length - i) {
            return OUTSIDE;
        }
        for (int sort = 0; sort < n; sort++) {
            int held = Math.max(0, Math.min(MOST_STOCK, (int) bytes.items[i + sort]));
            now.stock[street * SORTS + sort] = held;
        }
        return n;
    }

    public int sheet(int sheet, int sort, int n) {
        if (noSheet(sheet) || outside(sort, -1, LONGS)) {
            return BAD;
        }
        if (sort == -1) {
            sheets[sheet] = null;
            return 1;
        }
        if (n > MOST_ITEMS) {
            return BAD;
        }
        if (n < 0) {
            return BELOW_ZERO;
        }
        sheets[sheet] = new Sheet(sort, n);
        return 1;
    }

    public int put(int sheet, int i, int v) {
        if (noSheet(sheet)) {
            return BAD;
        }
        Sheet row = sheets[sheet];
        if (row == null) {
            return MISSING;
        }
        if (outside(i, 0, row.items.length - 1)) {
            return OUTSIDE;
        }
        row.items[i] = row.narrowed(v);
        return 1;
    }

    public int item(int sheet, int sort, int i) {
        if (noSheet(sheet) || outside(sort, 0, LONGS)) {
            return BAD;
        }
        Sheet row = sheets[sheet];
        if (row == null) {
            return MISSING;
        }
        if (row.sort != sort) {
            return OTHER_SORT;
        }
        return outside(i, 0, row.items.length - 1) ? OUTSIDE : (int) row.items[i];
    }

    public int shelf(int shelf, int what, int n) {
        if (noShelf(shelf) || outside(what, 0, 2)) {
            return BAD;
        }
        if ((what == 0 && noBoat(n)) || (what == 1 && noSheet(n))) {
            return BAD;
        }
        shelfBoats[shelf] = what == 0 ? n : NO_BOAT;
        shelfSheets[shelf] = what == 1 && !noSheet(n) ? sheets[n] : null;
        return 1;
    }

    public int taken(int shelf, int as) {
        boolean asRow = !outside(as, 10, 10 + LONGS);
        if (noShelf(shelf) || (noKind(as) && !asRow)) {
            return BAD;
        }
        int boat = shelfBoats[shelf];
        Sheet row = shelfSheets[shelf];
        if (noBoat(boat) && row == null) {
            return MISSING;
        }
        if (row != null) {
            return asRow && row.sort == as - 10 ? row.items.length : OTHER_SORT;
        }
        return !asRow && now.kindOf(boat).isUnder(as) ? boat : OTHER_SORT;
    }

    public int act(int shelf, int act, int x) {
        acting.bodies = 0;
        if (noShelf(shelf) || outside(act, 0, 3) || noBoat(shelfBoats[shelf])) {
            return 0;
        }
        int boat = shelfBoats[shelf];
        acting.startAs(boat, now.m[boat]);
        Boat thing = now.kindOf(boat);
        int answer;
        switch (act) {
            case 0:
                answer = thing.drags(acting, x);
                break;
            case 1:
                answer = thing.lands(acting, x);
                break;
            case 2:
                answer = thing.mends(acting, x);
                break;
            default:
                answer = thing.hums(acting, x);
                break;
        }
        return acting.parted ? PARTED_BY_ZERO : answer;
    }

    public int trace(int i) {
        return outside(i, 0, acting.bodies - 1) ? NONE : acting.trace[i];
    }

    public int many(int what) {
        switch (what) {
            case 0:
                return now.boats;
            case 1:
                return now.tornBoats();
            case 2:
                return sum(now.sleepers, STREETS);
            case 3:
                return now.fullWards();
            case 4:
                return rowCount;
            case 5:
                return tape.end;
            case 6:
                return acting.bodies;
            default:
                return BAD;
        }
    }

    public int keep() {
        kept.copyFrom(now);
        hasKept = true;
        return 1;
    }

    public int again() {
        if (!hasKept) {
            return NONE;
        }
        now.copyFrom(kept);
        return now.boats;
    }

    // ---- what the calls share ----

    private static boolean outside(int v, int least, int most) {
        return v < least || v > most;
    }

    private static boolean noSort(int sort) {
        return outside(sort, 0, SORTS - 1);
    }

    private static boolean noStreet(int street) {
        return outside(street, 0, STREETS - 1);
    }

    private static boolean noWard(int ward) {
        return outside(ward, 0, WARDS - 1);
    }

    private static boolean noKind(int kind) {
        return outside(kind, 0, KINDS - 1);
    }

    private static boolean noSheet(int sheet) {
        return outside(sheet, 0, SHEETS - 1);
    }

    private static boolean noShelf(int shelf) {
        return outside(shelf, 0, SHELVES - 1);
    }

    private boolean noBoat(int boat) {
        return outside(boat, 0, now.boats - 1);
    }

    private boolean noRow(int i, int what) {
        return outside(i, 0, rowCount - 1) || outside(what, 0, ROW_PARTS - 1);
    }

    /** The caller has looked at the index. */
    private static int exchange(int[] numbers, int i, int v) {
        int was = numbers[i];
        numbers[i] = v;
        return was;
    }

    private static int sum(int[] numbers, int count) {
        int sum = 0;
        for (int i = 0; i < count && i < numbers.length; i++) {
            sum += numbers[i];
        }
        return sum;
    }

    private int boatsThatMay() {
        int set = 0;
        for (int boat = 0; boat < now.boats; boat++) {
            if (now.mayHaul(boat)) {
                set |= 1 << boat;
            }
        }
        return set;
    }

    private static long power(long base, int n) {
        long power = 1;
        for (int i = 0; i < n; i++) {
            power *= base;
        }
        return power;
    }

    /** A part of a fraction whose below is above 0. */
    private static long partOf(long above, long below, int part) {
        long divisor = below;
        long rest = above;
        // far more rounds than any two longs need
        for (int round = 0; round < 200 && rest != 0; round++) {
            long next = divisor % rest;
            divisor = rest;
            rest = next;
        }
        long whole = part == 0 ? above : below;
        return divisor == 0 ? whole : whole / divisor;
    }

    private int worthByMesh(int boat, int mesh, int n) {
        trial.copyFrom(now);
        trial.mesh[boat] = mesh;
        int worth = 0;
        for (int i = 0; i < n; i++) {
            worth += trial.worthOfDrag(boat);
            trial.ring();
        }
        return worth;
    }

    private void findShoal(Sheet told) {
        for (int place = 0; place < fits.length; place++) {
            fits[place] = true;
        }
        trial.copyFrom(now);
        for (int i = 0; i < told.items.length; i++) {
            for (int place = 0; place < fits.length; place++) {
                fits[place] = fits[place] && trial.stock[place] == told.items[i];
            }
            trial.ring();
        }
    }

    private int countFits() {
        int count = 0;
        for (int place = 0; place < fits.length; place++) {
            if (fits[place]) {
                count++;
            }
        }
        return count;
    }

    private int firstFit() {
        for (int place = 0; place < fits.length; place++) {
            if (fits[place]) {
                return 10 * (place / SORTS) + place % SORTS;
            }
        }
        return NONE;
    }

    private void findWay(int boat, int n) {
        search.boat = boat;
        search.n = n;
        search.bestWorth = -1;
        search.steps[0].copyFrom(now);
        explore(search, 0);
    }

    /** Ways are met in the order of their streets, so that of several best the first one stays. */
    private static void explore(Search search, int depth) {
        World from = search.steps[depth];
        if (depth >= search.n || depth >= MOST_STEPS) {
            // nothing is landed on the way, so what it holds more is what it hauled
            search.endWay(from.worthHeld(search.boat) - search.steps[0].worthHeld(search.boat));
            return;
        }
        World to = search.steps[depth + 1];
        int at = from.at[search.boat];
        for (int street = 0; street < STREETS; street++) {
            int onward = (street - at + STREETS) % STREETS;
            if (onward <= 1 || onward == STREETS - 1) {
                to.copyFrom(from);
                to.at[search.boat] = street;
                search.way[depth] = street;
                to.drag(search.boat);
                to.ring();
                explore(search, depth + 1);
            }
        }
    }

    /** The ways of a boat that have been looked at, with a world for each step of the present one. */
    private static final class Search {
        final World[] steps = new World[MOST_STEPS + 1];
        final int[] way = new int[MOST_STEPS];
        final int[] bestWay = new int[MOST_STEPS];
        int boat;
        int n;
        int bestWorth;

        Search(Boat[] kinds) {
            for (int i = 0; i < steps.length; i++) {
                steps[i] = new World(kinds);
            }
        }

        void endWay(int worth) {
            if (worth > bestWorth) {
                bestWorth = worth;
                System.arraycopy(way, 0, bestWay, 0, MOST_STEPS);
            }
        }
    }

    /** All that can be kept; what is tried is tried on a copy. */
    private static final class World {
        final Boat[] kinds;
        final int[] laws = new int[3];
        final int[] prices = new int[SORTS];
        final int[] stock = new int[STREETS * SORTS];
        final int[] sleepers = new int[STREETS];
        final int[] lacks = new int[STREETS];
        final int[] quotas = new int[WARDS];
        final int[] takenIn = new int[WARDS];
        final int[] kind = new int[BOATS];
        final int[] m = new int[BOATS];
        final int[] at = new int[BOATS];
        final int[] mesh = new int[BOATS];
        final int[] torn = new int[BOATS];
        final int[] holds = new int[BOATS * SORTS];
        int boats;
        int bell;
        int coins;
        int z = 1;

        World(Boat[] kinds) {
            this.kinds = kinds;
            startAnew();
        }

        /** All but z is as at first. */
        void startAnew() {
            System.arraycopy(FIRST_LAWS, 0, laws, 0, laws.length);
            System.arraycopy(FIRST_PRICES, 0, prices, 0, SORTS);
            for (int place = 0; place < stock.length; place++) {
                stock[place] = 0;
            }
            for (int street = 0; street < STREETS; street++) {
                sleepers[street] = 3;
                lacks[street] = 0;
            }
            for (int ward = 0; ward < WARDS; ward++) {
                quotas[ward] = MOST_QUOTA;
                takenIn[ward] = 0;
            }
            boats = 0;
            bell = 0;
            coins = 0;
        }

        void copyFrom(World other) {
            System.arraycopy(other.laws, 0, laws, 0, laws.length);
            System.arraycopy(other.prices, 0, prices, 0, SORTS);
            System.arraycopy(other.stock, 0, stock, 0, stock.length);
            System.arraycopy(other.sleepers, 0, sleepers, 0, STREETS);
            System.arraycopy(other.lacks, 0, lacks, 0, STREETS);
            System.arraycopy(other.quotas, 0, quotas, 0, WARDS);
            System.arraycopy(other.takenIn, 0, takenIn, 0, WARDS);
            System.arraycopy(other.kind, 0, kind, 0, BOATS);
            System.arraycopy(other.m, 0, m, 0, BOATS);
            System.arraycopy(other.at, 0, at, 0, BOATS);
            System.arraycopy(other.mesh, 0, mesh, 0, BOATS);
            System.arraycopy(other.torn, 0, torn, 0, BOATS);
            System.arraycopy(other.holds, 0, holds, 0, holds.length);
            boats = other.boats;
            bell = other.bell;
            coins = other.coins;
            z = other.z;
        }

        /** The caller has looked at the numbers, and that there is room. */
        int addBoat(int newKind, int newM, int street, int newMesh) {
            int boat = boats;
            kind[boat] = newKind;
            m[boat] = newM;
            at[boat] = street;
            mesh[boat] = newMesh;
            torn[boat] = 0;
            for (int sort = 0; sort < SORTS; sort++) {
                holds[boat * SORTS + sort] = 0;
            }
            boats++;
            return boat;
        }

        Boat kindOf(int boat) {
            return kinds[kind[boat]];
        }

        int sleepersIn(int ward) {
            return sleepers[2 * ward] + sleepers[2 * ward + 1];
        }

        int stockIn(int street) {
            int sum = 0;
            for (int sort = 0; sort < SORTS; sort++) {
                sum += stock[street * SORTS + sort];
            }
            return sum;
        }

        int mostIn(int street) {
            int most = 0;
            for (int sort = 1; sort < SORTS; sort++) {
                if (stock[street * SORTS + sort] > stock[street * SORTS + most]) {
                    most = sort;
                }
            }
            return most;
        }

        int rowPart(int street, int what) {
            if (what == 0) {
                return stockIn(street);
            }
            return what == 1 ? stock[street * SORTS + FLYING] : mostIn(street);
        }

        int emptyStreets() {
            int set = 0;
            for (int street = 0; street < STREETS; street++) {
                if (stockIn(street) == 0) {
                    set |= 1 << street;
                }
            }
            return set;
        }

        int tornBoats() {
            int count = 0;
            for (int boat = 0; boat < boats; boat++) {
                if (torn[boat] == MOST_TORN) {
                    count++;
                }
            }
            return count;
        }

        int fullWards() {
            int count = 0;
            for (int ward = 0; ward < WARDS; ward++) {
                if (takenIn[ward] >= quotas[ward]) {
                    count++;
                }
            }
            return count;
        }

        int worthHeld(int boat) {
            int worth = 0;
            for (int sort = 0; sort < SORTS; sort++) {
                worth += holds[boat * SORTS + sort] * prices[sort];
            }
            return worth;
        }

        int heldBySet(int set, int sort) {
            int held = 0;
            for (int boat = 0; boat < boats; boat++) {
                if ((set >> boat & 1) == 1) {
                    held += holds[boat * SORTS + sort];
                }
            }
            return held;
        }

        int takeOf(int boat, int sort) {
            int there = stock[at[boat] * SORTS + sort];
            return Math.min(there, kindOf(boat).catchOf(there, sort, m[boat]));
        }

        int tearOf(int boat) {
            return kindOf(boat).tearBy(m[boat], mesh[boat]);
        }

        boolean mayHaul(int boat) {
            int ward = at[boat] / 2;
            return torn[boat] < MOST_TORN && takenIn[ward] < quotas[ward];
        }

        /** A haul, if the boat may: how much in all. */
        int drag(int boat) {
            if (!mayHaul(boat)) {
                return 0;
            }
            int all = 0;
            for (int sort = 0; sort < SORTS; sort++) {
                if (SIZES[sort] >= mesh[boat]) {
                    int part = takeOf(boat, sort);
                    stock[at[boat] * SORTS + sort] -= part;
                    holds[boat * SORTS + sort] += part;
                    all += part;
                    if (sort == NIGHTMARE && part > 0) {
                        torn[boat] = Math.min(MOST_TORN, torn[boat] + tearOf(boat));
                    }
                }
            }
            lacks[at[boat]] += all;
            takenIn[at[boat] / 2] += all;
            return all;
        }

        int worthOfDrag(int boat) {
            int before = worthHeld(boat);
            drag(boat);
            return worthHeld(boat) - before;
        }

        void ring() {
            int breed = Math.max(1, laws[BREED]);
            int bred = bell % SORTS;
            for (int street = 0; street < STREETS; street++) {
                for (int sort = 0; sort < SORTS; sort++) {
                    int place = street * SORTS + sort;
                    int more = stock[place] / breed + (sort == bred ? sleepers[street] : 0);
                    stock[place] = Math.min(MOST_STOCK, stock[place] + more);
                }
            }
            driftOn();
            bell++;
        }

        void driftOn() {
            int drift = Math.max(1, laws[DRIFT]);
            int coming = stock[(STREETS - 1) * SORTS + FLYING] / drift;
            for (int street = 0; street < STREETS; street++) {
                int place = street * SORTS + FLYING;
                int going = stock[place] / drift;
                stock[place] = Math.min(MOST_STOCK, stock[place] - going + coming);
                coming = going;
            }
        }

        int draw() {
            z = z * 1103515245 + 12345;
            return z >>> 16;
        }

        int castNet(int boat) {
            return draw() % 100 < laws[WAKE] ? 0 : drag(boat);
        }

        int nightByDraws() {
            int all = 0;
            for (int boat = 0; boat < boats; boat++) {
                at[boat] = draw() % STREETS;
                all += castNet(boat);
            }
            ring();
            return all;
        }
    }

    /** The bytes fed, and the reader that goes over them name by name. */
    private static final class Tape {
        private static final int END = 0, NAME = 1, NUMBER = 2, OTHER = 3;
        private static final int BLANK = 32, MOST_DIGITS = 3;

        final int[] bytes = new int[TAPE_BYTES];
        int end;
        /** Where the latest name, number or other byte begins; where reading stopped, this is the fault. */
        int start;
        private int next;
        private int token;
        private int value;

        void add(int b) {
            if (end < TAPE_BYTES) {
                bytes[end] = b;
                end++;
            }
        }

        /** Whether all that was fed is as told; the world takes it on. */
        boolean tells(World world) {
            next = 0;
            // a part takes a byte at least
            for (int part = 0; part <= TAPE_BYTES; part++) {
                step();
                if (token == END) {
                    return true;
                }
                if (token != NAME || !tellsPart(world)) {
                    return false;
                }
            }
            return false;
        }

        private boolean tellsPart(World world) {
            for (int kind = 0; kind < KINDS; kind++) {
                if (isWord(kindName(kind))) {
                    return world.boats < BOATS && tellsBoat(world, kind);
                }
            }
            if (isWord("street")) {
                return tellsStreet(world);
            }
            if (isWord("price")) {
                return tellsPrice(world);
            }
            if (isWord("quota")) {
                return tellsQuota(world);
            }
            return isWord("wake") && tellsNumber(world.laws, WAKE, 0, MOST_LAWS[WAKE]);
        }

        private boolean tellsBoat(World world, int kind) {
            if (!readNumber(0, MOST_M)) {
                return false;
            }
            int m = value;
            if (!readWord("at") || !readNumber(0, STREETS - 1)) {
                return false;
            }
            int street = value;
            if (!readWord("mesh") || !readNumber(0, MOST_MESH)) {
                return false;
            }
            int mesh = value;
            if (!readStop()) {
                return false;
            }
            world.addBoat(kind, m, street, mesh);
            return true;
        }

        private boolean tellsStreet(World world) {
            if (!readNumber(0, STREETS - 1)) {
                return false;
            }
            int street = value;
            step();
            if (isWord("sleepers")) {
                return tellsNumber(world.sleepers, street, 0, MOST_SLEEPERS);
            }
            int sort = sortHere();
            return sort >= 0 && tellsNumber(world.stock, street * SORTS + sort, 0, MOST_STOCK);
        }

        private boolean tellsPrice(World world) {
            step();
            int sort = sortHere();
            return sort >= 0 && tellsNumber(world.prices, sort, 1, MOST_PRICE);
        }

        private boolean tellsQuota(World world) {
            if (!readNumber(0, WARDS - 1)) {
                return false;
            }
            return tellsNumber(world.quotas, value, 0, MOST_QUOTA);
        }

        /** A number and the stop behind it; the caller has looked at the index. */
        private boolean tellsNumber(int[] numbers, int i, int least, int most) {
            if (!readNumber(least, most)) {
                return false;
            }
            int told = value;
            if (!readStop()) {
                return false;
            }
            numbers[i] = told;
            return true;
        }

        private boolean readNumber(int least, int most) {
            step();
            return token == NUMBER && !outside(value, least, most);
        }

        private boolean readWord(String word) {
            step();
            return isWord(word);
        }

        private boolean readStop() {
            step();
            return token == OTHER && bytes[start] == ';';
        }

        private int sortHere() {
            for (int sort = 0; sort < SORTS; sort++) {
                if (isWord(sortName(sort))) {
                    return sort;
                }
            }
            return NONE;
        }

        private boolean isWord(String word) {
            if (token != NAME || next - start != word.length()) {
                return false;
            }
            for (int i = 0; i < word.length(); i++) {
                if (bytes[start + i] != word.charAt(i)) {
                    return false;
                }
            }
            return true;
        }

        private void step() {
            while (next < end && bytes[next] == BLANK) {
                next++;
            }
            start = next;
            if (next >= end) {
                token = END;
            } else if (isLetter(bytes[next])) {
                token = NAME;
                while (next < end && isLetter(bytes[next])) {
                    next++;
                }
            } else if (isDigit(bytes[next])) {
                token = NUMBER;
                value = 0;
                while (next < end && isDigit(bytes[next])) {
                    // too many digits give a value that no range holds
                    value = next - start < MOST_DIGITS ? value * 10 + bytes[next] - '0' : -1;
                    next++;
                }
            } else {
                token = OTHER;
                next++;
            }
        }

        private static boolean isLetter(int b) {
            return b >= 'a' && b <= 'z';
        }

        private static boolean isDigit(int b) {
            return b >= '0' && b <= '9';
        }

        private static String kindName(int kind) {
            switch (kind) {
                case 0:
                    return "boat";
                case 1:
                    return "seiner";
                case 2:
                    return "drifter";
                case 3:
                    return "tug";
                case 4:
                    return "dredger";
                default:
                    return "poacher";
            }
        }

        private static String sortName(int sort) {
            switch (sort) {
                case 0:
                    return "flying";
                case 1:
                    return "falling";
                case 2:
                    return "teeth";
                case 3:
                    return "school";
                default:
                    return "nightmare";
            }
        }
    }

    /** A row of a sort; the items are held wide and narrowed as they come. */
    private static final class Sheet {
        final int sort;
        final long[] items;

        Sheet(int sort, int n) {
            this.sort = sort;
            items = new long[Math.max(0, n)];
        }

        long narrowed(int v) {
            if (sort == 0) {
                return (byte) v;
            }
            return sort == 1 ? (short) v : v;
        }
    }

    /** An act under way: the thing's number n and its M, and the bodies that ran. */
    private static final class Acting {
        final int[] trace = new int[TRACE_BODIES];
        int bodies;
        int n;
        int a;
        boolean parted;

        void startAs(int number, int m) {
            n = number;
            a = m;
            parted = false;
        }

        /** Behind a parting by 0 no body runs any more: what is still reckoned then is not told. */
        void begin(int body) {
            if (!parted && bodies < TRACE_BODIES) {
                trace[bodies] = body;
                bodies++;
            }
        }
    }

    private static class Boat {
        boolean isUnder(int kind) {
            return kind == 0;
        }

        int catchOf(int there, int sort, int m) {
            return there / 4;
        }

        int tearBy(int m, int mesh) {
            return 1;
        }

        int drags(Acting it, int x) {
            it.begin(10);
            return x - it.n;
        }

        int lands(Acting it, int x) {
            it.begin(11);
            return drags(it, x) * 3;
        }

        int mends(Acting it, int x) {
            it.begin(12);
            int by = it.n - it.a;
            if (by == 0) {
                it.parted = true;
                return 0;
            }
            return x / by;
        }

        int hums(Acting it, int x) {
            it.begin(13);
            return lands(it, x) + it.a;
        }
    }

    private static class Seiner extends Boat {
        boolean isUnder(int kind) {
            return kind == 1 || super.isUnder(kind);
        }

        int catchOf(int there, int sort, int m) {
            return super.catchOf(there, sort, m) * 2;
        }

        int tearBy(int m, int mesh) {
            return 0;
        }

        int lands(Acting it, int x) {
            it.begin(20);
            return super.lands(it, x) - it.n;
        }
    }

    private static class Drifter extends Boat {
        boolean isUnder(int kind) {
            return kind == 2 || super.isUnder(kind);
        }

        int catchOf(int there, int sort, int m) {
            return super.catchOf(there, sort, m) + m;
        }

        int tearBy(int m, int mesh) {
            return super.tearBy(m, mesh) + 1;
        }

        int drags(Acting it, int x) {
            it.begin(30);
            return super.drags(it, x) ^ it.a;
        }

        int hums(Acting it, int x) {
            it.begin(31);
            return super.hums(it, x) + mends(it, it.a);
        }
    }

    private static final class Tug extends Seiner {
        boolean isUnder(int kind) {
            return kind == 3 || super.isUnder(kind);
        }

        int catchOf(int there, int sort, int m) {
            return sort == TEETH ? 0 : super.catchOf(there, sort, m);
        }

        int tearBy(int m, int mesh) {
            return super.tearBy(m, mesh) + (mesh < 3 ? 1 : 0);
        }

        int mends(Acting it, int x) {
            it.begin(50);
            return super.mends(it, x + 5) * 2;
        }

        int drags(Acting it, int x) {
            it.begin(51);
            return super.drags(it, x) + it.n;
        }
    }

    private static final class Dredger extends Drifter {
        boolean isUnder(int kind) {
            return kind == 4 || super.isUnder(kind);
        }

        int catchOf(int there, int sort, int m) {
            return super.catchOf(there, sort, m) * 2;
        }

        int tearBy(int m, int mesh) {
            return super.tearBy(m, mesh) + m;
        }

        int drags(Acting it, int x) {
            it.begin(40);
            return super.drags(it, x) * 2;
        }

        int lands(Acting it, int x) {
            it.begin(41);
            return super.lands(it, x) - drags(it, it.n);
        }
    }

    private static final class Poacher extends Boat {
        boolean isUnder(int kind) {
            return kind == 5 || super.isUnder(kind);
        }

        int catchOf(int there, int sort, int m) {
            return sort == m % SORTS ? there : super.catchOf(there, sort, m);
        }

        int tearBy(int m, int mesh) {
            return 0;
        }

        int hums(Acting it, int x) {
            it.begin(60);
            return 7 - super.hums(it, x);
        }

        int mends(Acting it, int x) {
            it.begin(61);
            return super.mends(it, x) ^ drags(it, it.a);
        }
    }
}
