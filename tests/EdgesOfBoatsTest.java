/** The edges that the document names, a test for each sentence: promises 11 to 21. */
public final class EdgesOfBoatsTest {
    private static final Check C = new Check("EdgesOfBoatsTest");
    private static final int LEAST = Integer.MIN_VALUE, MOST = Integer.MAX_VALUE;
    private static final int[] SIZES = {2, 3, 1, 5, 8};

    public static void main(String[] args) {
        // 11 to 16
        sixBoatsAtMost();
        boatIsBadAheadOfFull();
        boatsAtTheirEdges();
        noSuchKindOrNumber();
        noSuchBoat();
        ofTellsElevenThings();
        mindTakesKindAndMAlone();
        mindAtItsEdges();
        moveAtItsEdges();
        meshAtItsEdges();
        patchAtItsEdges();
        // 17, 18
        quartersAreCut();
        seinersTakeTwiceACutQuarter();
        driftersTakeNeverMoreThanThereIs();
        tugsTakeNoTeeth();
        dredgersTakeTwiceADrifter();
        poachersTakeAllOfWhatMLeavesByFive();
        takesLookAtNothingElse();
        noSuchTake();
        tearsAtTheirEdges();
        tugsTearBelowThree();
        // 19
        sizesThatAreTheMeshAreTaken();
        haulsOfNothing();
        tornBelowNine();
        takenBelowTheQuota();
        quotasOfBothStreets();
        haulsThatMayNotChangeNothing();
        noNightmareNoTear();
        nineTearsAtMost();
        haulsAreOfTheStockThere();
        // 20, 21
        freeOfNothing();
        freeToNinetyNineAtMost();
        freeLeavesLacksAndTaken();
        noSuchFree();
        landOfNothing();
        landOfEachSort();
        landByPricesOfNow();
        C.end();
    }

    private static DreamNets with(int kind, int m, int street, int mesh) {
        DreamNets x = new DreamNets();
        x.boat(kind, m, street, mesh);
        return x;
    }

    // ---- 11: "BOATS, 6 at most, numbered as they come"

    private static void sixBoatsAtMost() {
        DreamNets x = new DreamNets();
        for (int i = 0; i < 6; i++) {
            C.due("11 boat", x.boat(i, i, i, i), i);
        }
        C.due("11 a seventh", x.boat(0, 0, 0, 0), -2);
        C.due("11 an eighth", x.boat(5, 9, 7, 9), -2);
        C.due("50 six", x.many(0), 6);
        C.due("12 the last stays", x.of(5, 0), 5);
        C.due("12 none more", x.of(6, 0), -1);
    }

    private static void boatIsBadAheadOfFull() {
        DreamNets x = new DreamNets();
        for (int i = 0; i < 6; i++) {
            x.boat(0, 0, 0, 0);
        }
        int[][] none = {{6, 0, 0, 0}, {-1, 0, 0, 0}, {0, 10, 0, 0}, {0, -1, 0, 0}, {0, 0, 8, 0}, {0, 0, -1, 0},
            {0, 0, 0, 10}, {0, 0, 0, -1}};
        for (int[] v : none) {
            C.due("11 bad, full", x.boat(v[0], v[1], v[2], v[3]), -1);
        }
        C.due("11 full", x.boat(0, 0, 0, 0), -2);
    }

    // "each of a KIND (0 to 5); M (0 to 9); AT a STREET; MESH (0 to 9); TORN (0 at first); HOLDS (0 at first)"
    private static void boatsAtTheirEdges() {
        int[][] edges = {{0, 0, 0, 0}, {5, 9, 7, 9}, {0, 9, 0, 9}, {5, 0, 7, 0}};
        for (int[] v : edges) {
            DreamNets x = new DreamNets();
            C.due("11 boat", x.boat(v[0], v[1], v[2], v[3]), 0);
            for (int what = 0; what < 4; what++) {
                C.due("12 of " + what, x.of(0, what), v[what]);
            }
            for (int what = 4; what < 11; what++) {
                C.due("12 0 at first, of " + what, x.of(0, what), 0);
            }
        }
    }

    private static void noSuchKindOrNumber() {
        DreamNets x = new DreamNets();
        int[] edges = {6, 10, 8, 10};
        for (int i = 0; i < 4; i++) {
            int[] none = {edges[i], -1, LEAST, MOST};
            for (int bad : none) {
                int[] v = new int[4];
                v[i] = bad;
                C.due("11 argument " + i + " is " + bad, x.boat(v[0], v[1], v[2], v[3]), -1);
                C.due("50 none came", x.many(0), 0);
            }
        }
        C.due("11 the first is still 0", x.boat(0, 0, 0, 0), 0);
    }

    private static void noSuchBoat() {
        DreamNets empty = new DreamNets();
        DreamNets two = with(0, 0, 0, 0);
        two.boat(1, 1, 1, 1);
        int[] noneOfEmpty = {0, 1, 5, 6, -1, LEAST, MOST};
        int[] noneOfTwo = {2, 3, 5, 6, -1, LEAST, MOST};
        for (int i = 0; i < 7; i++) {
            for (int k = 0; k < 2; k++) {
                DreamNets x = k == 0 ? empty : two;
                int boat = k == 0 ? noneOfEmpty[i] : noneOfTwo[i];
                String is = " of boat " + boat;
                C.due("12" + is, x.of(boat, 0), -1);
                C.due("13" + is, x.mind(boat, 0, 0), -1);
                C.due("14" + is, x.move(boat, 0), -1);
                C.due("15" + is, x.mesh(boat, 0), -1);
                C.due("16" + is, x.patch(boat), -1);
                C.due("17" + is, x.takes(boat, 0), -1);
                C.due("18" + is, x.tears(boat), -1);
                C.due("19" + is, x.haul(boat), -1);
                C.due("20" + is, x.free(boat, 0), -1);
                C.due("21" + is, x.land(boat), -1);
                C.due("23" + is, x.cast(boat), -1);
                C.due("28" + is, x.plan(boat, 0), -1);
                C.due("29" + is, x.stop(boat, 0, 0), -1);
                C.due("30" + is, x.fine(boat, 1, 0), -1);
                C.due("37" + is, x.hope(boat, 0, 0), -1);
                C.due("46" + is, x.shelf(0, 0, boat), -1);
            }
        }
        C.due("24 nothing was drawn", two.seed(1), 1);
    }

    // ---- 12: "what = 0 KIND .. 10 WORTH of what it HOLDS. BAD."

    private static void ofTellsElevenThings() {
        DreamNets x = with(5, 4, 3, 2);
        int[] none = {-1, 11, LEAST, MOST};
        for (int what : none) {
            C.due("12 no what " + what, x.of(0, what), -1);
        }
        for (int sort = 0; sort < 5; sort++) {
            x.mind(0, 5, sort);
            x.mesh(0, 0);
            x.sleep(3, sort, sort + 1);
            x.haul(0);
        }
        for (int sort = 0; sort < 5; sort++) {
            C.due("12 holds " + sort, x.of(0, 5 + sort), sort + 1);
        }
        C.due("12 worth", x.of(0, 10), 9 + 2 * 4 + 3 * 2 + 4 * 6 + 5 * 12);
        C.due("27 all held", x.state(3), 15);
    }

    // ---- 13: "A BOAT becomes one of another KIND, with another M: the KIND that it was. BAD."

    private static void mindTakesKindAndMAlone() {
        DreamNets x = with(4, 9, 6, 1);
        x.sleep(6, 4, 99);
        x.haul(0);
        int held = x.of(0, 9);
        C.due("13 mind", x.mind(0, 1, 2), 4);
        int[] due = {1, 2, 6, 1, 9};
        for (int what = 0; what < 5; what++) {
            C.due("13 of " + what, x.of(0, what), due[what]);
        }
        C.due("13 holds", x.of(0, 9), held);
    }

    private static void mindAtItsEdges() {
        DreamNets x = with(3, 4, 0, 0);
        int[] noKind = {-1, 6, LEAST, MOST};
        for (int kind : noKind) {
            C.due("13 no kind " + kind, x.mind(0, kind, 7), -1);
            C.due("13 m stays", x.of(0, 1), 4);
        }
        int[] noM = {-1, 10, LEAST, MOST};
        for (int m : noM) {
            C.due("13 no m " + m, x.mind(0, 5, m), -1);
            C.due("13 kind stays", x.of(0, 0), 3);
        }
        C.due("13 the least", x.mind(0, 0, 0), 3);
        C.due("13 the most", x.mind(0, 5, 9), 0);
        C.due("13 m", x.of(0, 1), 9);
        C.due("13 the same kind", x.mind(0, 5, 0), 5);
        C.due("13 m", x.of(0, 1), 0);
    }

    // ---- 14, 15, 16

    private static void moveAtItsEdges() {
        DreamNets x = with(0, 0, 3, 0);
        int[] none = {-1, 8, LEAST, MOST};
        for (int street : none) {
            C.due("14 no street " + street, x.move(0, street), -1);
            C.due("14 at stays", x.of(0, 2), 3);
        }
        C.due("14 to the first", x.move(0, 0), 3);
        C.due("14 to the last", x.move(0, 7), 0);
        C.due("14 to the same", x.move(0, 7), 7);
        C.due("14 at", x.of(0, 2), 7);
    }

    private static void meshAtItsEdges() {
        DreamNets x = with(0, 0, 0, 5);
        int[] none = {-1, 10, LEAST, MOST};
        for (int v : none) {
            C.due("15 no mesh " + v, x.mesh(0, v), -1);
            C.due("15 mesh stays", x.of(0, 3), 5);
        }
        C.due("15 the least", x.mesh(0, 0), 5);
        C.due("15 the most", x.mesh(0, 9), 0);
        C.due("15 the same", x.mesh(0, 9), 9);
    }

    private static void patchAtItsEdges() {
        DreamNets x = with(4, 9, 0, 0);
        C.due("16 not torn", x.patch(0), 0);
        x.sleep(0, 4, 1);
        x.haul(0);
        C.due("16 torn as can be", x.patch(0), 9);
        C.due("16 not torn any more", x.patch(0), 0);
        C.due("12 torn", x.of(0, 4), 0);
    }

    // ---- 17: "TAKES of a STOCK (never more than that): boat: a quarter."

    private static void takes(int kind, int m, int sort, int stock, int due) {
        DreamNets x = with(kind, m, 2, 0);
        x.sleep(2, sort, stock);
        C.due("17 kind " + kind + " of m " + m + " takes of sort " + sort + " of " + stock, x.takes(0, sort), due);
    }

    private static void quartersAreCut() {
        int[][] due = {{0, 0}, {1, 0}, {3, 0}, {4, 1}, {7, 1}, {8, 2}, {98, 24}, {99, 24}};
        for (int[] v : due) {
            for (int sort = 0; sort < 5; sort++) {
                takes(0, 9, sort, v[0], v[1]);
            }
        }
    }

    // "seiner: twice as a boat."
    private static void seinersTakeTwiceACutQuarter() {
        int[][] due = {{0, 0}, {3, 0}, {4, 2}, {6, 2}, {7, 2}, {8, 4}, {99, 48}};
        for (int[] v : due) {
            takes(1, 9, 1, v[0], v[1]);
            takes(1, 0, 2, v[0], v[1]);
        }
    }

    // "drifter: as boat, and M more." never more than there is
    private static void driftersTakeNeverMoreThanThereIs() {
        int[][] due = {{0, 9, 0}, {1, 9, 1}, {8, 9, 8}, {11, 9, 11}, {12, 9, 12}, {13, 9, 12}, {99, 9, 33}, {99, 0, 24},
            {1, 1, 1}, {1, 0, 0}, {4, 3, 4}, {4, 2, 3}};
        for (int[] v : due) {
            takes(2, v[1], 0, v[0], v[2]);
        }
    }

    // "tug: as seiner, but no teeth."
    private static void tugsTakeNoTeeth() {
        for (int sort = 0; sort < 5; sort++) {
            takes(3, 9, sort, 99, sort == 2 ? 0 : 48);
            takes(3, 0, sort, 4, sort == 2 ? 0 : 2);
            takes(3, 0, sort, 3, 0);
        }
        DreamNets x = with(3, 0, 0, 0);
        x.sleep(0, 2, 99);
        C.due("19 a tug hauls no teeth", x.haul(0), 0);
    }

    // "dredger: twice as a drifter." never more than there is
    private static void dredgersTakeTwiceADrifter() {
        int[][] due = {{0, 9, 0}, {1, 1, 1}, {2, 1, 2}, {3, 1, 2}, {4, 1, 4}, {5, 1, 4}, {99, 0, 48}, {99, 9, 66},
            {36, 9, 36}, {37, 9, 36}, {38, 9, 36}, {3, 0, 0}};
        for (int[] v : due) {
            takes(4, v[1], 3, v[0], v[2]);
        }
    }

    // "poacher: all of the SORT that M leaves by 5, of others as boat."
    private static void poachersTakeAllOfWhatMLeavesByFive() {
        for (int m = 0; m < 10; m++) {
            for (int sort = 0; sort < 5; sort++) {
                boolean all = sort == m || sort == m - 5;
                takes(5, m, sort, 99, all ? 99 : 24);
                takes(5, m, sort, 1, all ? 1 : 0);
                takes(5, m, sort, 0, 0);
            }
        }
    }

    // "(MESH, TORN, QUOTA don't matter)"
    private static void takesLookAtNothingElse() {
        DreamNets x = with(4, 9, 1, 9);
        x.sleep(1, 4, 99);
        C.due("17 the mesh is too wide", x.takes(0, 4), 66);
        x.mesh(0, 0);
        x.haul(0);
        C.due("12 torn", x.of(0, 4), 9);
        x.sleep(1, 4, 99);
        C.due("17 it is torn", x.takes(0, 4), 66);
        x.quota(0, 0);
        C.due("17 no quota", x.takes(0, 4), 66);
        C.due("19 though it may not haul", x.haul(0), -4);
        C.due("9 nothing was taken", x.street(1, 4), 99);
    }

    private static void noSuchTake() {
        DreamNets x = with(0, 0, 0, 0);
        int[] none = {-1, 5, LEAST, MOST};
        for (int sort : none) {
            C.due("17 no sort " + sort, x.takes(0, sort), -1);
        }
    }

    // ---- 18: "boat: 1. seiner: 0. drifter: as boat, and 1. tug: .. dredger: as drifter, and M. poacher: 0."

    private static void tearsAtTheirEdges() {
        for (int m = 0; m < 10; m++) {
            int[] due = {1, 0, 2, 0, 2 + m, 0};
            for (int kind = 0; kind < 6; kind++) {
                C.due("18 kind " + kind + " of m " + m, with(kind, m, 0, 9).tears(0), due[kind]);
            }
        }
    }

    // "and 1 if MESH is below 3"
    private static void tugsTearBelowThree() {
        for (int mesh = 0; mesh < 10; mesh++) {
            C.due("18 a tug's mesh of " + mesh, with(3, 9, 0, mesh).tears(0), mesh < 3 ? 1 : 0);
            C.due("18 a seiner's", with(1, 9, 0, mesh).tears(0), 0);
            C.due("18 a boat's", with(0, 9, 0, mesh).tears(0), 1);
        }
    }

    // ---- 19: "of each SORT whose SIZE is MESH or more"

    private static void sizesThatAreTheMeshAreTaken() {
        for (int sort = 0; sort < 5; sort++) {
            for (int mesh = 0; mesh < 10; mesh++) {
                DreamNets x = with(0, 0, 4, mesh);
                x.sleep(4, sort, 8);
                int due = SIZES[sort] >= mesh ? 2 : 0;
                C.due("19 sort " + sort + " by mesh " + mesh, x.haul(0), due);
                C.due("19 held", x.of(0, 5 + sort), due);
                C.due("19 left", x.street(4, sort), 8 - due);
            }
        }
    }

    private static void haulsOfNothing() {
        DreamNets x = with(5, 0, 0, 0);
        C.due("19 of an empty street", x.haul(0), 0);
        DreamNets y = with(0, 0, 0, 0);
        for (int sort = 0; sort < 5; sort++) {
            y.sleep(0, sort, 3);
        }
        C.due("19 quarters of 3", y.haul(0), 0);
        y.sleep(0, 4, 99);
        y.mesh(0, 9);
        C.due("19 none by a mesh of 9", y.haul(0), 0);
        C.due("9 lacks", y.street(0, 6), 0);
        C.due("8 taken", y.ward(0, 1), 0);
    }

    // "A BOAT MAY HAUL, if TORN is below 9"
    private static void tornBelowNine() {
        DreamNets x = with(4, 6, 0, 0);
        x.sleep(0, 4, 1);
        x.haul(0);
        C.due("12 torn", x.of(0, 4), 8);
        C.due("27 at 8 it may", x.state(5), 1);
        C.due("50 at 8 it isn't torn", x.many(1), 0);
        C.due("19 at 8", x.haul(0), 0);
        x.sleep(0, 4, 1);
        C.due("19 at 8", x.haul(0), 1);
        C.due("12 torn", x.of(0, 4), 9);
        C.due("27 at 9 it may not", x.state(5), 0);
        C.due("50 at 9 it is torn", x.many(1), 1);
        C.due("19 at 9", x.haul(0), -4);
        x.mind(0, 1, 0);
        C.due("19 at 9, whatever its kind", x.haul(0), -4);
        x.patch(0);
        C.due("19 patched", x.haul(0), 0);
    }

    // "and less than QUOTA was TAKEN in the WARD of the STREET AT which it is"
    private static void takenBelowTheQuota() {
        DreamNets x = with(5, 1, 2, 0);
        x.sleep(2, 1, 10);
        C.due("19 haul", x.haul(0), 10);
        x.quota(1, 10);
        C.due("19 as much as the quota", x.haul(0), -4);
        C.due("27 it may not", x.state(5), 0);
        C.due("50 a full ward", x.many(3), 1);
        x.quota(1, 11);
        C.due("27 it may", x.state(5), 1);
        C.due("50 no full ward", x.many(3), 0);
        C.due("19 one less than the quota", x.haul(0), 0);
        x.quota(1, 9);
        C.due("19 more than the quota", x.haul(0), -4);
        DreamNets y = with(0, 0, 2, 0);
        y.quota(1, 0);
        C.due("19 a quota of 0", y.haul(0), -4);
        y.quota(1, 1);
        C.due("19 a quota of 1", y.haul(0), 0);
    }

    private static void quotasOfBothStreets() {
        DreamNets x = with(5, 1, 4, 0);
        x.sleep(4, 1, 5);
        x.haul(0);
        x.quota(2, 5);
        for (int street = 0; street < 8; street++) {
            x.move(0, street);
            C.due("19 at " + street, x.haul(0), street == 4 || street == 5 ? -4 : 0);
        }
    }

    private static void haulsThatMayNotChangeNothing() {
        DreamNets x = with(0, 0, 6, 0);
        for (int sort = 0; sort < 5; sort++) {
            x.sleep(6, sort, 40);
        }
        x.quota(3, 0);
        C.due("19 it may not", x.haul(0), -4);
        C.due("9 stock", x.street(6, 7), 200);
        C.due("9 lacks", x.street(6, 6), 0);
        C.due("8 taken", x.ward(3, 1), 0);
        C.due("12 torn", x.of(0, 4), 0);
        C.due("12 worth", x.of(0, 10), 0);
    }

    // "if that is a nightmare (more than 0), TORN is more by what it TEARS"
    private static void noNightmareNoTear() {
        DreamNets x = with(0, 0, 0, 0);
        for (int sort = 0; sort < 4; sort++) {
            x.sleep(0, sort, 99);
        }
        x.haul(0);
        C.due("12 of others", x.of(0, 4), 0);
        x.sleep(0, 4, 3);
        x.haul(0);
        C.due("12 of no nightmare taken", x.of(0, 4), 0);
        x.sleep(0, 4, 4);
        x.haul(0);
        C.due("12 of one", x.of(0, 4), 1);
        x.sleep(0, 4, 99);
        x.haul(0);
        C.due("12 of many, once", x.of(0, 4), 2);
        x.mind(0, 1, 0);
        x.sleep(0, 4, 99);
        x.haul(0);
        C.due("12 a seiner tears nothing", x.of(0, 4), 2);
    }

    // "(9 at most)"
    private static void nineTearsAtMost() {
        for (int m = 0; m < 10; m++) {
            DreamNets x = with(4, m, 0, 0);
            x.sleep(0, 4, 99);
            x.haul(0);
            C.due("12 torn by a dredger of " + m, x.of(0, 4), Math.min(9, 2 + m));
        }
        DreamNets y = with(2, 1, 0, 0);
        int[] due = {2, 4, 6, 8, 9};
        for (int torn : due) {
            y.sleep(0, 4, 1);
            C.due("19 haul", y.haul(0), 1);
            C.due("12 torn by a drifter", y.of(0, 4), torn);
        }
        C.due("19 none more", y.haul(0), -4);
    }

    private static void haulsAreOfTheStockThere() {
        for (int street = 0; street < 8; street++) {
            DreamNets x = with(5, 1, street, 0);
            for (int other = 0; other < 8; other++) {
                x.sleep(other, 1, 10 + other);
            }
            C.due("19 at " + street, x.haul(0), 10 + street);
            C.due("27 there is nothing then", x.state(4), 1 << street);
            C.due("9 lacks", x.street(street, 6), 10 + street);
        }
    }

    // ---- 20: "All that it HOLDS of a SORT comes back to the STOCK where it is (99 there at most; LACKS, TAKEN stay)"

    private static void freeOfNothing() {
        DreamNets x = with(0, 0, 5, 0);
        for (int sort = 0; sort < 5; sort++) {
            x.sleep(5, sort, 99);
            C.due("20 nothing", x.free(0, sort), 0);
            C.due("9 stock", x.street(5, sort), 99);
        }
    }

    private static void freeToNinetyNineAtMost() {
        int[][] due = {{59, 99}, {58, 98}, {60, 99}, {99, 99}, {0, 40}};
        for (int[] v : due) {
            for (int sort = 0; sort < 5; sort++) {
                DreamNets x = with(5, sort, 0, 0);
                x.sleep(0, sort, 40);
                x.haul(0);
                x.sleep(0, sort, v[0]);
                C.due("20 how much it held", x.free(0, sort), 40);
                C.due("9 stock of " + v[0] + " and 40", x.street(0, sort), v[1]);
                C.due("12 it holds none", x.of(0, 5 + sort), 0);
                C.due("20 none any more", x.free(0, sort), 0);
            }
        }
    }

    private static void freeLeavesLacksAndTaken() {
        DreamNets x = with(5, 3, 7, 0);
        x.sleep(7, 3, 33);
        x.haul(0);
        x.move(0, 0);
        C.due("20 elsewhere", x.free(0, 3), 33);
        C.due("9 it is there", x.street(0, 3), 33);
        C.due("9 not where it was", x.street(7, 3), 0);
        C.due("9 lacks", x.street(7, 6), 33);
        C.due("9 lacks", x.street(0, 6), 0);
        C.due("8 taken", x.ward(3, 1), 33);
        C.due("8 taken", x.ward(0, 1), 0);
    }

    private static void noSuchFree() {
        DreamNets x = with(5, 4, 0, 0);
        x.sleep(0, 4, 9);
        x.haul(0);
        int[] none = {-1, 5, LEAST, MOST};
        for (int sort : none) {
            C.due("20 no sort " + sort, x.free(0, sort), -1);
        }
        C.due("12 it holds it still", x.of(0, 9), 9);
        // it needn't be one that may haul
        x.quota(0, 0);
        C.due("20 free", x.free(0, 4), 9);
    }

    // ---- 21: "COINS are more by WORTH of what it HOLDS; it HOLDS nothing then: by how many. BAD."

    private static void landOfNothing() {
        DreamNets x = with(0, 0, 0, 0);
        C.due("21 nothing", x.land(0), 0);
        C.due("27 coins", x.state(1), 0);
    }

    private static void landOfEachSort() {
        int[] prices = {9, 4, 2, 6, 12};
        for (int sort = 0; sort < 5; sort++) {
            DreamNets x = with(5, sort, 0, 0);
            x.boat(5, sort, 1, 0);
            x.sleep(0, sort, 7);
            x.sleep(1, sort, 5);
            x.haul(0);
            x.haul(1);
            C.due("21 land of sort " + sort, x.land(0), 7 * prices[sort]);
            C.due("12 nothing is held", x.of(0, 5 + sort), 0);
            C.due("21 nothing any more", x.land(0), 0);
            C.due("12 the other's stays", x.of(1, 5 + sort), 5);
        }
    }

    private static void landByPricesOfNow() {
        DreamNets x = with(5, 2, 0, 0);
        int coins = 0;
        int[] prices = {1, 30, 7};
        for (int price : prices) {
            x.sleep(0, 2, 99);
            x.haul(0);
            x.price(2, price);
            C.due("12 worth", x.of(0, 10), 99 * price);
            C.due("21 land", x.land(0), 99 * price);
            coins += 99 * price;
            C.due("27 coins", x.state(1), coins);
            C.due("12 nothing is held", x.of(0, 7), 0);
            C.due("21 none any more", x.land(0), 0);
        }
        C.due("9 nothing comes back", x.street(0, 2), 0);
    }
}
