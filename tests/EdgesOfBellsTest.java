/** The edges that the document names, a test for each sentence: promises 22 to 27. */
public final class EdgesOfBellsTest {
    private static final Check C = new Check("EdgesOfBellsTest");
    private static final int LEAST = Integer.MIN_VALUE, MOST = Integer.MAX_VALUE;

    public static void main(String[] args) {
        // 22
        oneToFortyEightBells();
        bellTells();
        breedIsCut();
        breedAtItsEdges();
        ninetyNineAtMostByBreed();
        ninetyNineAtMostBySleepers();
        sleepersTakeTurns();
        driftIsCut();
        driftAtItsEdges();
        driftGoesRound();
        driftIsOfHowAllIsThen();
        ninetyNineAtMostByDrift();
        emptyStreetsStayEmpty();
        // 23
        castBelowWake();
        castWithoutWake();
        castThatMayNot();
        castOfNoSuchBoat();
        // 24
        seedTakesAnyNumber();
        drawsWrap();
        drawsHaveNoSign();
        // 25
        nightWithoutBoats();
        nightComesToTheStreetThatADrawLeavesByEight();
        nightIsByNumbers();
        nightRingsOnce();
        nightOfBoatsThatMayNot();
        // 26
        monthAtItsEdges();
        monthWithoutBoats();
        monthOfJustSoMuch();
        monthTriesEachFromNow();
        monthChangesNothing();
        // 27
        noSuchState();
        statesOfNothing();
        setsByBits();
        C.end();
    }

    // ---- 22: "n BELLS (1 to 48) go: BELL then. BAD."

    private static void oneToFortyEightBells() {
        int[] none = {0, 49, -1, 50, LEAST, MOST};
        for (int n : none) {
            DreamNets x = new DreamNets();
            C.due("22 no " + n + " bells", x.bells(n), -1);
            C.due("27 none went", x.state(0), 0);
            C.due("27 nothing was born", x.state(2), 0);
        }
        for (int n = 1; n <= 48; n++) {
            DreamNets x = new DreamNets();
            DreamNets y = new DreamNets();
            C.due("22 bells", x.bells(n), n);
            C.due("27 bell", x.state(0), n);
            for (int i = 1; i <= n; i++) {
                C.due("22 one by one", y.bells(1), i);
            }
            C.due("27 as many by one and one", x.state(2), y.state(2));
        }
    }

    private static void bellTells() {
        DreamNets x = new DreamNets();
        C.due("22 48", x.bells(48), 48);
        C.due("22 48 more", x.bells(48), 96);
        C.due("22 none", x.bells(0), -1);
        C.due("22 one more", x.bells(1), 97);
    }

    // "(1) each STOCK is more by a BREED-th of it (cut)"
    private static void breedIsCut() {
        int[][] due = {{0, 0}, {1, 1}, {7, 7}, {8, 9}, {15, 16}, {16, 18}, {87, 97}, {88, 99}};
        for (int[] v : due) {
            for (int sort = 1; sort < 5; sort++) {
                DreamNets x = Check.still();
                x.sleep(3, sort, v[0]);
                x.bells(1);
                C.due("22 an eighth of " + v[0] + " of sort " + sort, x.street(3, sort), v[1]);
            }
        }
    }

    private static void breedAtItsEdges() {
        int[][] due = {{1, 49, 98}, {1, 1, 2}, {2, 1, 1}, {2, 2, 3}, {20, 19, 19}, {20, 20, 21}, {20, 99, 99}, {20, 60, 63}};
        for (int[] v : due) {
            DreamNets x = Check.still();
            x.set(1, v[0]);
            x.sleep(3, 3, v[1]);
            x.bells(1);
            C.due("22 by a breed of " + v[0] + " of " + v[1], x.street(3, 3), v[2]);
        }
    }

    // "99 at most"
    private static void ninetyNineAtMostByBreed() {
        int[] full = {88, 89, 90, 98, 99};
        for (int stock : full) {
            for (int sort = 1; sort < 5; sort++) {
                DreamNets x = Check.still();
                x.sleep(0, sort, stock);
                x.bells(1);
                C.due("22 of " + stock, x.street(0, sort), 99);
                x.bells(48);
                C.due("22 of 99", x.street(0, sort), 99);
            }
        }
        DreamNets x = Check.still();
        x.set(1, 1);
        x.sleep(0, 4, 50);
        x.bells(1);
        C.due("22 twice 50", x.street(0, 4), 99);
    }

    private static void ninetyNineAtMostBySleepers() {
        int[][] due = {{0, 9, 9}, {7, 9, 16}, {80, 9, 99}, {81, 9, 99}, {80, 8, 98}, {87, 1, 98}, {87, 2, 99}, {87, 3, 99},
            {99, 9, 99}, {99, 0, 99}};
        for (int[] v : due) {
            for (int sort = 1; sort < 5; sort++) {
                DreamNets x = Check.still();
                x.bells(sort);
                x.sleep(6, sort, v[0]);
                x.sleep(6, 5, v[1]);
                x.bells(1);
                C.due("22 of " + v[0] + " by " + v[1] + " sleepers", x.street(6, sort), v[2]);
            }
        }
    }

    // "and by SLEEPERS, if the SORT is what BELL leaves by 5"
    private static void sleepersTakeTurns() {
        DreamNets x = Check.still();
        x.set(1, 20);
        x.set(2, 20);
        x.sleep(4, 5, 1);
        int[] due = new int[5];
        for (int bell = 0; bell < 17; bell++) {
            x.bells(1);
            due[bell % 5]++;
            for (int sort = 0; sort < 5; sort++) {
                C.due("22 of " + sort + " behind " + (bell + 1), x.street(4, sort), due[sort]);
            }
        }
    }

    // "(2) Of flying each STREET has a DRIFT-th (cut, ..) less, which comes to the STREET behind it"
    private static void driftIsCut() {
        int[][] due = {{1, 0}, {3, 0}, {4, 1}, {7, 1}, {8, 2}};
        for (int[] v : due) {
            DreamNets x = Check.still();
            x.set(1, 20);
            x.sleep(2, 0, v[0]);
            x.bells(1);
            C.due("22 " + v[0] + " less a fourth", x.street(2, 0), v[0] - v[1]);
            C.due("22 the fourth", x.street(3, 0), v[1]);
            C.due("22 nothing comes ahead", x.street(1, 0), 0);
        }
    }

    private static void driftAtItsEdges() {
        DreamNets x = Check.still();
        x.set(1, 20);
        x.set(2, 1);
        x.sleep(2, 0, 19);
        x.bells(1);
        C.due("22 all drift on", x.street(2, 0), 0);
        C.due("22 all drift on", x.street(3, 0), 19);
        DreamNets y = Check.still();
        y.set(2, 20);
        y.set(1, 20);
        y.sleep(2, 0, 19);
        y.bells(1);
        C.due("22 a twentieth of 19", y.street(2, 0), 19);
        // 20 and a twentieth of it are 21
        y.sleep(2, 0, 20);
        y.bells(1);
        C.due("22 a twentieth of 21", y.street(2, 0), 20);
        C.due("22 it", y.street(3, 0), 1);
    }

    // "in a ring (0 is behind 7)"
    private static void driftGoesRound() {
        DreamNets x = Check.still();
        x.set(1, 20);
        x.set(2, 1);
        x.sleep(6, 0, 5);
        int[] due = {7, 0, 1, 2, 3, 4, 5, 6, 7, 0};
        for (int street : due) {
            x.bells(1);
            C.due("22 it is at " + street, x.street(street, 0), 5);
            C.due("22 there alone", x.state(4), 255 - (1 << street));
        }
        DreamNets y = Check.still();
        y.sleep(7, 0, 4);
        y.bells(1);
        C.due("22 from 7", y.street(7, 0), 3);
        C.due("22 to 0", y.street(0, 0), 1);
        for (int sort = 1; sort < 5; sort++) {
            DreamNets z = Check.still();
            z.sleep(7, sort, 4);
            z.bells(1);
            C.due("22 sort " + sort + " stays", z.street(7, sort), 4);
            C.due("22 and doesn't come to 0", z.street(0, 7), 0);
        }
    }

    // "of all as they are behind (1)": what comes doesn't go on at once, and what was bred drifts
    private static void driftIsOfHowAllIsThen() {
        DreamNets x = Check.still();
        x.set(1, 20);
        x.set(2, 1);
        for (int street = 0; street < 8; street++) {
            x.sleep(street, 0, street + 1);
        }
        x.bells(1);
        for (int street = 0; street < 8; street++) {
            C.due("22 at " + street, x.street(street, 0), street == 0 ? 8 : street);
        }
        DreamNets y = Check.still();
        y.set(2, 9);
        y.sleep(1, 0, 8);
        y.bells(1);
        C.due("22 8 and 1, less 1", y.street(1, 0), 8);
        C.due("22 the one", y.street(2, 0), 1);
        DreamNets z = Check.still();
        z.set(2, 9);
        z.sleep(1, 5, 9);
        z.bells(1);
        C.due("22 9 sleepers, less 1", z.street(1, 0), 8);
        C.due("22 the one", z.street(2, 0), 1);
    }

    private static void ninetyNineAtMostByDrift() {
        for (int drift = 1; drift <= 20; drift++) {
            DreamNets x = Check.still();
            x.set(2, drift);
            for (int street = 0; street < 8; street++) {
                x.sleep(street, 0, 99);
            }
            x.bells(1);
            for (int street = 0; street < 8; street++) {
                C.due("22 as much comes as goes", x.street(street, 0), 99);
            }
            // 88 and an eighth of it are 99 ahead of the drift
            DreamNets y = Check.still();
            y.set(2, drift);
            y.sleep(3, 0, 88);
            y.bells(1);
            C.due("22 less a part of 99", y.street(3, 0), 99 - 99 / drift);
            C.due("22 a part of 99", y.street(4, 0), 99 / drift);
        }
    }

    private static void emptyStreetsStayEmpty() {
        DreamNets x = Check.still();
        x.bells(48);
        C.due("27 nothing was born", x.state(2), 0);
        C.due("27 empty", x.state(4), 255);
    }

    // ---- 23: "if what that leaves by 100 is below WAKE, nothing comes; else a HAUL (if it MAY)"

    /** A z whose next draw leaves what is wished. */
    private static int seedFor(int by, int leaves) {
        for (int z = 0; z < 1000000; z++) {
            if (((z * 1103515245 + 12345) >>> 16) % by == leaves) {
                return z;
            }
        }
        throw new IllegalArgumentException(leaves + " by " + by);
    }

    private static DreamNets caster() {
        DreamNets x = Check.still();
        x.boat(5, 3, 2, 0);
        x.sleep(2, 3, 50);
        return x;
    }

    private static void castBelowWake() {
        int[] wakes = {1, 10, 50, 98, 99};
        for (int wake : wakes) {
            DreamNets x = caster();
            x.set(0, wake);
            x.seed(seedFor(100, wake - 1));
            C.due("23 one below a wake of " + wake, x.cast(0), 0);
            C.due("23 nothing came", x.street(2, 3), 50);
            x.seed(seedFor(100, 0));
            C.due("23 0 is below a wake of " + wake, x.cast(0), 0);
            x.seed(seedFor(100, wake));
            C.due("23 just a wake of " + wake, x.cast(0), 50);
            C.due("23 it came", x.of(0, 8), 50);
            x.sleep(2, 3, 7);
            x.seed(seedFor(100, 99));
            C.due("23 99 isn't below a wake of " + wake, x.cast(0), 7);
        }
    }

    private static void castWithoutWake() {
        for (int leaves = 0; leaves < 100; leaves += 11) {
            DreamNets x = caster();
            x.set(0, 0);
            x.seed(seedFor(100, leaves));
            C.due("23 nobody is awake", x.cast(0), 50);
        }
    }

    // "(0: nothing came, or it MAY not)"
    private static void castThatMayNot() {
        DreamNets x = caster();
        x.set(0, 0);
        x.quota(1, 0);
        int z = x.seed(9);
        C.due("24 z", z, 1);
        C.due("23 it may not", x.cast(0), 0);
        C.due("23 nothing came", x.street(2, 3), 50);
        C.due("24 but it drew", x.seed(0), 9 * 1103515245 + 12345);
        DreamNets y = caster();
        y.set(0, 0);
        y.sleep(2, 3, 0);
        C.due("23 there is nothing", y.cast(0), 0);
    }

    private static void castOfNoSuchBoat() {
        DreamNets x = new DreamNets();
        int[] none = {0, -1, 1, 6, LEAST, MOST};
        for (int boat : none) {
            C.due("23 no boat " + boat, x.cast(boat), -1);
        }
        C.due("24 no draw", x.seed(0), 1);
    }

    // ---- 24: "z becomes v: what it was." and "z (an int; 1 at first)"

    private static void seedTakesAnyNumber() {
        int[] zs = {0, -1, 1, LEAST, MOST, -12345, 7};
        DreamNets x = new DreamNets();
        int was = 1;
        for (int z : zs) {
            C.due("24 seed of " + z, x.seed(z), was);
            was = z;
        }
    }

    // "z becomes z * 1103515245 + 12345": an int that comes round
    private static void drawsWrap() {
        int[] zs = {0, 1, -1, LEAST, MOST, 1 << 30, 123456789, -987654321};
        for (int z : zs) {
            DreamNets x = new DreamNets();
            x.boat(0, 0, 0, 0);
            x.seed(z);
            x.cast(0);
            long due = (z * 1103515245L + 12345L) & 0xffffffffL;
            C.due("24 behind " + z, x.seed(0) & 0xffffffffL, due);
        }
    }

    // "z >>> 16 is drawn"
    private static void drawsHaveNoSign() {
        int below = 0;
        for (int z = 0; z < 40; z++) {
            int next = z * 1103515245 + 12345;
            DreamNets x = new DreamNets();
            x.boat(0, 0, 0, 0);
            x.seed(z);
            x.set(0, 99);
            x.night();
            int street = (int) ((next & 0xffffffffL) >> 16) % 8;
            C.due("25 the street behind z " + z, x.of(0, 2), street);
            below += next < 0 ? 1 : 0;
        }
        C.holds("some z were below 0: " + below, below > 5 && below < 35);
    }

    // ---- 25: "for each BOAT, by numbers, a draw: it comes to the STREET that it leaves by 8, and a CAST there; then a BELL"

    private static void nightWithoutBoats() {
        DreamNets x = new DreamNets();
        C.due("25 nothing", x.night(), 0);
        C.due("27 a bell went", x.state(0), 1);
        C.due("27 the sleepers dreamt", x.state(2), 24);
        C.due("24 no draw", x.seed(0), 1);
    }

    private static void nightComesToTheStreetThatADrawLeavesByEight() {
        for (int street = 0; street < 8; street++) {
            DreamNets x = new DreamNets();
            x.boat(0, 0, 5, 0);
            x.seed(seedFor(8, street));
            x.night();
            C.due("25 at", x.of(0, 2), street);
        }
    }

    private static void nightIsByNumbers() {
        DreamNets x = Check.still();
        x.set(0, 0);
        for (int boat = 0; boat < 6; boat++) {
            x.boat(5, 1, 0, 0);
        }
        for (int street = 0; street < 8; street++) {
            x.sleep(street, 1, 10 + street);
        }
        int[] left = {10, 11, 12, 13, 14, 15, 16, 17};
        int z = 2024;
        x.seed(z);
        int[] due = new int[6];
        int[] at = new int[6];
        int all = 0;
        for (int boat = 0; boat < 6; boat++) {
            z = z * 1103515245 + 12345;
            at[boat] = (z >>> 16) % 8;
            z = z * 1103515245 + 12345;
            due[boat] = left[at[boat]];
            left[at[boat]] = 0;
            all += due[boat];
        }
        C.due("25 in all", x.night(), all);
        for (int boat = 0; boat < 6; boat++) {
            C.due("25 at", x.of(boat, 2), at[boat]);
            C.due("25 who is first has all", x.of(boat, 6), due[boat]);
        }
        C.due("24 two draws each", x.seed(0), z);
    }

    private static void nightRingsOnce() {
        DreamNets x = new DreamNets();
        for (int boat = 0; boat < 6; boat++) {
            x.boat(0, 0, 0, 9);
        }
        x.night();
        C.due("27 bell", x.state(0), 1);
        x.night();
        C.due("27 bell", x.state(0), 2);
        // behind the casts: flying of the first bell was there for the second night alone
        C.due("27 nothing was hauled by a mesh of 9", x.state(3), 0);
    }

    private static void nightOfBoatsThatMayNot() {
        DreamNets x = Check.still();
        x.set(0, 0);
        x.boat(1, 0, 0, 0);
        x.boat(1, 0, 0, 0);
        for (int street = 0; street < 8; street++) {
            x.sleep(street, 1, 19);
            x.quota(street / 2, 0);
        }
        x.set(1, 20);
        C.due("25 none may", x.night(), 0);
        C.due("27 all is there", x.state(2), 8 * 19);
        C.due("27 but a bell went", x.state(0), 1);
        int z = 1;
        for (int i = 0; i < 4; i++) {
            z = z * 1103515245 + 12345;
        }
        C.due("24 and all drew", x.seed(0), z);
    }

    // ---- 26: "MONTH (n 1 to 30; v 0 to 999). BAD."

    private static void monthAtItsEdges() {
        DreamNets x = new DreamNets();
        int[] noN = {0, -1, 31, LEAST, MOST};
        for (int n : noN) {
            C.due("26 no n " + n, x.month(n, 0), -1);
        }
        int[] noV = {-1, 1000, LEAST, MOST};
        for (int v : noV) {
            C.due("26 no v " + v, x.month(1, v), -1);
        }
        C.due("26 the least n", x.month(1, 0), 1);
        C.due("26 the most n", x.month(30, 0), 30);
        C.due("26 the most v", x.month(30, 999), 0);
    }

    private static void monthWithoutBoats() {
        DreamNets x = new DreamNets();
        for (int n = 1; n <= 30; n++) {
            C.due("26 0 or more", x.month(n, 0), n);
            C.due("26 1 or more", x.month(n, 1), 0);
        }
    }

    // "v or more is hauled in all"
    private static void monthOfJustSoMuch() {
        DreamNets x = Check.still();
        x.set(0, 0);
        x.boat(5, 1, 0, 0);
        for (int street = 0; street < 8; street++) {
            x.sleep(street, 1, 40);
        }
        C.due("26 one less", x.month(30, 39), 30);
        C.due("26 just so much", x.month(30, 40), 30);
        C.due("26 one more", x.month(30, 41), 0);
    }

    // "each tried from how all is now (z alone goes on)"
    private static void monthTriesEachFromNow() {
        DreamNets x = Check.still();
        x.set(0, 0);
        x.boat(5, 1, 3, 0);
        x.sleep(6, 1, 9);
        // there is something at 6 alone: on how many nights does the first draw of two lead there?
        int z = 77;
        x.seed(z);
        int due = 0;
        for (int n = 1; n <= 30; n++) {
            z = z * 1103515245 + 12345;
            due += (z >>> 16) % 8 == 6 ? 1 : 0;
            z = z * 1103515245 + 12345;
            C.due("26 nights of " + n, x.month(n, 9), due);
        }
        C.holds("there were some: " + due, due > 1);
    }

    // "(nothing changes, z neither)"
    private static void monthChangesNothing() {
        DreamNets x = new DreamNets();
        x.boat(4, 9, 3, 0);
        x.sleep(6, 4, 99);
        x.seed(5);
        x.month(30, 10);
        C.due("27 bell", x.state(0), 0);
        C.due("27 stock", x.state(2), 99);
        C.due("27 held", x.state(3), 0);
        C.due("12 at", x.of(0, 2), 3);
        C.due("12 torn", x.of(0, 4), 0);
        C.due("8 taken", x.ward(3, 1), 0);
        C.due("9 lacks", x.street(6, 6), 0);
        C.due("24 z", x.seed(0), 5);
    }

    // ---- 27: "what = 0 BELL, .. 5 BOATS that MAY HAUL, as sets. BAD."

    private static void noSuchState() {
        DreamNets x = new DreamNets();
        int[] none = {-1, 6, LEAST, MOST};
        for (int what : none) {
            C.due("27 no what " + what, x.state(what), -1);
        }
    }

    private static void statesOfNothing() {
        DreamNets x = new DreamNets();
        int[] due = {0, 0, 0, 0, 255, 0};
        for (int what = 0; what < 6; what++) {
            C.due("27 what " + what, x.state(what), due[what]);
        }
    }

    // "Sets are told by bits."
    private static void setsByBits() {
        for (int set = 0; set < 256; set++) {
            DreamNets x = new DreamNets();
            for (int street = 0; street < 8; street++) {
                x.sleep(street, street % 5, (set >> street & 1) == 1 ? 0 : 1);
            }
            C.due("27 empty streets", x.state(4), set);
        }
        for (int set = 0; set < 16; set++) {
            DreamNets x = new DreamNets();
            for (int boat = 0; boat < 6; boat++) {
                x.boat(0, 0, boat, 0);
            }
            for (int ward = 0; ward < 4; ward++) {
                x.quota(ward, (set >> ward & 1) == 1 ? 1 : 0);
            }
            C.due("27 boats that may", x.state(5), (set & 1) * 3 + (set & 2) * 6 + (set & 4) * 12);
        }
        DreamNets x = new DreamNets();
        C.due("27 of one boat", x.boat(0, 0, 0, 0), 0);
        C.due("27 of one boat", x.state(5), 1);
    }
}
