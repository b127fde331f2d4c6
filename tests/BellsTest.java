/** Promises 22 to 27: bells, casts, draws, nights, months, the state. */
public final class BellsTest {
    private static final Check C = new Check("BellsTest");

    public static void main(String[] args) {
        bellsBreedAndDrift();
        bellsBySleepers();
        bellsAtTheMost();
        draws();
        casts();
        castsByManyDraws();
        nights();
        months();
        states();
        C.end();
    }

    private static void bellsBreedAndDrift() {
        DreamNets x = new DreamNets();
        C.due("22 none", x.bells(0), -1);
        C.due("22 too many", x.bells(49), -1);
        C.due("22 below", x.bells(-1), -1);
        C.due("22 no bell went", x.state(0), 0);
        int[] stock = {40, 41, 17, 8, 7};
        for (int sort = 0; sort < 5; sort++) {
            x.sleep(0, sort, stock[sort]);
        }
        C.due("22 bells(1)", x.bells(1), 1);
        // bred: 40 + 5 + 3, 41 + 5, 17 + 2, 8 + 1, 7 + 0; a quarter of 48 drifts to street 1, none of 3 comes from 7
        int[] due = {36, 46, 19, 9, 7};
        for (int sort = 0; sort < 5; sort++) {
            C.due("22 street 0, " + sort, x.street(0, sort), due[sort]);
        }
        C.due("22 street 1", x.street(1, 0), 15);
        C.due("22 street 2", x.street(2, 0), 3);
        C.due("22 street 7", x.street(7, 0), 3);
        C.due("22 bells(1)", x.bells(1), 2);
        // 36 + 4 = 40, 10 drift on; 15 + 1 = 16, 4 drift on, 10 come; falling has the sleepers' turn
        C.due("22 street 0", x.street(0, 0), 30);
        C.due("22 street 0", x.street(0, 1), 46 + 5 + 3);
        C.due("22 street 1", x.street(1, 0), 22);
        C.due("22 street 1", x.street(1, 1), 3);
        C.due("22 street 2", x.street(2, 0), 7);
        C.due("22 lacks stay", x.street(0, 6), 0);
        C.due("22 bells(48)", x.bells(48), 50);
        // a BREED-th and a DRIFT-th by the laws: 50 by 20 is 2, 52 + 3 = 55, by 3 is 18
        DreamNets y = new DreamNets();
        y.set(1, 20);
        y.set(2, 3);
        y.sleep(7, 0, 50);
        y.bells(1);
        C.due("22 from 7", y.street(7, 0), 55 - 18 + 1);
        C.due("22 to 0", y.street(0, 0), 3 - 1 + 18);
        C.due("22 not to 6", y.street(6, 0), 3);
        // all drifts on by 1
        DreamNets z = new DreamNets();
        z.set(1, 20);
        z.set(2, 1);
        z.sleep(3, 5, 9);
        z.bells(1);
        C.due("22 all drift on", z.street(4, 0), 9);
        C.due("22 all drift on", z.street(3, 0), 3);
        z.bells(1);
        C.due("22 all drift on", z.street(5, 0), 9);
        C.due("22 falling doesn't drift", z.street(3, 1), 9);
    }

    private static void bellsBySleepers() {
        DreamNets x = new DreamNets();
        x.sleep(5, 5, 1);
        for (int bell = 0; bell < 6; bell++) {
            x.bells(1);
            for (int sort = 1; sort < 5; sort++) {
                C.due("22 of " + sort + " behind " + bell, x.street(5, sort), sort <= bell ? 1 : 0);
            }
        }
        C.due("22 no sleepers, none born", x.sleep(6, 5, 0), 3);
    }

    private static void bellsAtTheMost() {
        DreamNets x = new DreamNets();
        x.set(1, 1);
        x.set(2, 20);
        for (int sort = 0; sort < 5; sort++) {
            x.sleep(2, sort, 60);
        }
        x.bells(1);
        C.due("22 99 at most, less what drifts", x.street(2, 0), 99 - 4);
        for (int sort = 1; sort < 5; sort++) {
            C.due("22 99 at most", x.street(2, sort), 99);
        }
        C.due("22 drifted", x.street(3, 0), 3 + 4);
    }

    private static void draws() {
        DreamNets x = new DreamNets();
        C.due("24 first", x.seed(0), 1);
        C.due("24 was", x.seed(Integer.MIN_VALUE), 0);
        C.due("24 was", x.seed(-1), Integer.MIN_VALUE);
        C.due("24 was", x.seed(7), -1);
        x.boat(0, 0, 0, 0);
        x.cast(0);
        C.due("24 drawn once", x.seed(0), 7 * 1103515245 + 12345);
        C.due("23 no boat", x.cast(1), -1);
        C.due("23 no boat", x.cast(-1), -1);
        C.due("24 no draw", x.seed(0), 0);
        x.cast(0);
        C.due("24 0 becomes 12345", x.seed(0), 12345);
        x.night();
        C.due("25 two draws a boat", x.seed(0), 12345 * 1103515245 + 12345);
    }

    /** A z whose next draw leaves what is wished by 100. */
    private static int seedFor(int leaves) {
        for (int z = 0; z < 1000000; z++) {
            if (((z * 1103515245 + 12345) >>> 16) % 100 == leaves) {
                return z;
            }
        }
        return -1;
    }

    private static void casts() {
        DreamNets x = new DreamNets();
        C.due("23 none", x.cast(0), -1);
        x.boat(0, 0, 0, 0);
        x.sleep(0, 3, 96);
        x.set(0, 37);
        x.seed(seedFor(36));
        C.due("23 awake", x.cast(0), 0);
        C.due("23 nothing came", x.street(0, 3), 96);
        x.seed(seedFor(37));
        C.due("23 asleep", x.cast(0), 24);
        C.due("23 a haul", x.street(0, 3), 72);
        C.due("23 lacks", x.street(0, 6), 24);
        x.seed(seedFor(0));
        C.due("23 awake", x.cast(0), 0);
        x.set(0, 0);
        x.seed(seedFor(0));
        C.due("23 never awake", x.cast(0), 18);
        x.quota(0, 0);
        int z = seedFor(99);
        x.seed(z);
        C.due("23 it may not", x.cast(0), 0);
        C.due("23 but it drew", x.seed(1), z * 1103515245 + 12345);
        C.due("23 no bell goes", x.state(0), 0);
        // a draw has no sign: z of -1 gives a z below 0
        x.quota(0, 999);
        x.set(0, 99);
        int drawn = (-1 * 1103515245 + 12345) >>> 16;
        C.due("23 drawn", drawn % 100 < 99 ? 1 : 0, 1);
        x.seed(-1);
        C.due("23 awake", x.cast(0), 0);
    }

    private static void castsByManyDraws() {
        for (int z = -300; z < 300; z++) {
            DreamNets x = new DreamNets();
            x.boat(0, 0, 0, 0);
            x.sleep(0, 3, 4);
            x.set(0, 37);
            x.seed(z);
            int leaves = ((z * 1103515245 + 12345) >>> 16) % 100;
            C.due("23 cast from " + z, x.cast(0), leaves < 37 ? 0 : 1);
        }
    }

    private static void nights() {
        DreamNets x = new DreamNets();
        C.due("25 no boats", x.night(), 0);
        C.due("25 a bell went", x.state(0), 1);
        C.due("25 no draw", x.seed(1), 1);
        // by hand: z = 1 gives 16838 (street 6), 5758 (58 by 100), 10113 (street 1), 17515 (15), 31051 (street 3), 5627 (27)
        DreamNets y = new DreamNets();
        int z = 1;
        int[] drawn = new int[6];
        for (int i = 0; i < 6; i++) {
            z = z * 1103515245 + 12345;
            drawn[i] = z >>> 16;
        }
        for (int boat = 0; boat < 3; boat++) {
            y.boat(1, 0, 0, 0);
        }
        for (int street = 0; street < 8; street++) {
            y.sleep(street, 2, 8 * street + 8);
        }
        y.set(0, 30);
        int due = 0;
        for (int boat = 0; boat < 3; boat++) {
            int street = drawn[2 * boat] % 8;
            due += drawn[2 * boat + 1] % 100 < 30 ? 0 : 4 * street + 4;
        }
        C.due("25 night", y.night(), due);
        for (int boat = 0; boat < 3; boat++) {
            C.due("25 came to", y.of(boat, 2), drawn[2 * boat] % 8);
        }
        C.due("25 one bell", y.state(0), 1);
        C.due("25 held", y.state(3), due);
        C.due("25 z", y.seed(0), z);
    }

    private static void months() {
        DreamNets x = new DreamNets();
        C.due("26 no boats, 0 or more", x.month(30, 0), 30);
        C.due("26 no boats, 1 or more", x.month(30, 1), 0);
        C.due("26 n", x.month(0, 0), -1);
        C.due("26 n", x.month(31, 0), -1);
        C.due("26 v", x.month(1, -1), -1);
        C.due("26 v", x.month(1, 1000), -1);
        C.due("26 most v", x.month(1, 999), 0);
        x.boat(1, 0, 0, 0);
        x.boat(0, 0, 5, 0);
        x.set(0, 45);
        for (int street = 0; street < 8; street++) {
            for (int sort = 0; sort < 5; sort++) {
                x.sleep(street, sort, 11 * street + sort);
            }
        }
        x.seed(4711);
        x.keep();
        // each night on what was kept, with the z of the one ahead
        int[] hauled = new int[30];
        int z = 4711;
        for (int i = 0; i < 30; i++) {
            x.again();
            x.seed(z);
            hauled[i] = x.night();
            z = x.seed(0);
        }
        x.again();
        for (int n = 1; n <= 30; n++) {
            for (int v = 0; v <= 300; v += 25) {
                int due = 0;
                for (int i = 0; i < n; i++) {
                    due += hauled[i] >= v ? 1 : 0;
                }
                C.due("26 month(" + n + ", " + v + ")", x.month(n, v), due);
            }
        }
        C.due("26 as much counts", x.month(1, Math.min(999, hauled[0])), 1);
        C.due("26 no bell went", x.state(0), 0);
        C.due("26 nothing is held", x.state(3), 0);
        C.due("26 at stays", x.of(1, 2), 5);
        C.due("26 z stays", x.seed(0), 4711);
    }

    private static void states() {
        DreamNets x = new DreamNets();
        x.boat(0, 0, 1, 0);
        x.boat(4, 9, 6, 0);
        x.boat(0, 0, 7, 0);
        C.due("27 bell", x.state(0), 0);
        C.due("27 empty", x.state(4), 255);
        C.due("27 may", x.state(5), 7);
        x.sleep(1, 0, 40);
        x.sleep(6, 4, 9);
        C.due("27 stock", x.state(2), 49);
        C.due("27 empty", x.state(4), 255 - 2 - 64);
        x.haul(0);
        C.due("27 the dredger takes all", x.haul(1), 9);
        C.due("27 held", x.state(3), 19);
        C.due("27 stock", x.state(2), 30);
        C.due("27 empty", x.state(4), 255 - 2);
        C.due("27 may", x.state(5), 5);
        x.quota(0, 10);
        C.due("27 may", x.state(5), 4);
        x.land(1);
        C.due("27 coins", x.state(1), 108);
        x.bells(5);
        C.due("27 bell", x.state(0), 5);
        C.due("27 none empty", x.state(4), 0);
        C.due("27 no what", x.state(6), -1);
        C.due("27 no what", x.state(-1), -1);
    }
}
