/** The edges that the document names, a test for each sentence: promises 28 to 37. */
public final class EdgesOfPlansTest {
    private static final Check C = new Check("EdgesOfPlansTest");
    private static final int LEAST = Integer.MIN_VALUE, MOST = Integer.MAX_VALUE;
    private static final int[] SIZES = {2, 3, 1, 5, 8};

    public static void main(String[] args) {
        // 28, 29
        planAtItsEdges();
        planOfNoHauls();
        planWhereThereIsNothing();
        planGoesRound();
        planGoesOneStreetEachTime();
        planOfSeveralTheFirstByStreets();
        planRunsIntoTheQuota();
        planRunsIntoTears();
        planOfABoatThatMayNot();
        planIsOfWorthNotOfNumbers();
        stopAtItsEdges();
        // 30
        fineAtItsEdges();
        fineOfSeveralTheGreatest();
        fineIfItMayEachTime();
        fineRunsIntoTheQuota();
        // 31
        lastsOfAnEmptyStreetNow();
        lastsForFortyEight();
        lastsNotByThen();
        lastsWithoutBoats();
        lastsOfBoatsByNumbers();
        lastsLooksBehindTheBell();
        // 32
        shoalAtItsEdges();
        shoalOfAMissingSheet();
        shoalOfAnEmptySheet();
        shoalOfForty();
        shoalOfNone();
        shoalFirstByStreetThenSort();
        shoalOfEverySortOfSheet();
        // 33
        piecesAtTheirEdges();
        piecesOfZero();
        piecesOfNone();
        piecesOfMost();
        piecesOfFewest();
        piecesOfTheLeastNumber();
        // 34
        givesOfNothing();
        givesOfOneSleeperAtLeast();
        givesOfSeveralTheLeast();
        givesByAFractionThatIsNotCut();
        // 35
        whenAtItsEdges();
        whenNow();
        whenBehindFortyEight();
        whenNotByThen();
        whenOrMore();
        // 36, 37
        oddsAtTheirEdges();
        oddsOfNoCasts();
        oddsWithoutWake();
        oddsOfTheMost();
        oddsWithoutACommonDivisor();
        hopeAtItsEdges();
        hopeOfNoCasts();
        hopeOfNothing();
        hopeWithoutWake();
        hopeRunsIntoTheQuota();
        hopeRunsIntoTears();
        hopeOfFive();
        C.end();
    }

    /** A poacher of falling, where no one sleeps. */
    private static DreamNets poacherAt(int street) {
        DreamNets x = Check.still();
        x.boat(5, 1, street, 0);
        return x;
    }

    private static void stops(DreamNets x, int boat, int... due) {
        for (int i = 0; i < due.length; i++) {
            C.due("29 stop " + i + " of " + due.length, x.stop(boat, due.length, i), due[i]);
        }
        if (due.length < 4) {
            C.due("29 it has not so many", x.stop(boat, due.length, due.length), -3);
        }
    }

    // ---- 28: "PLAN of a BOAT, by n (0 to 4)"

    private static void planAtItsEdges() {
        DreamNets x = poacherAt(0);
        x.sleep(0, 1, 10);
        int[] none = {-1, 5, LEAST, MOST};
        for (int n : none) {
            C.due("28 no n " + n, x.plan(0, n), -1);
            C.due("29 no n " + n, x.stop(0, n, 0), -1);
        }
        // 10 fallings, and one more behind each bell: be elsewhere first, and haul last
        int[] due = {0, 40, 44, 48, 52};
        for (int n = 0; n <= 4; n++) {
            C.due("28 by " + n, x.plan(0, n), due[n]);
        }
    }

    private static void planOfNoHauls() {
        DreamNets x = poacherAt(3);
        x.sleep(3, 1, 99);
        C.due("28 none", x.plan(0, 0), 0);
        for (int i = 0; i < 4; i++) {
            C.due("29 none", x.stop(0, 0, i), -3);
        }
    }

    private static void planWhereThereIsNothing() {
        for (int street = 0; street < 8; street++) {
            DreamNets x = poacherAt(street);
            for (int n = 0; n <= 4; n++) {
                C.due("28 nothing", x.plan(0, n), 0);
            }
        }
    }

    // "first AT its STREET, the one ahead or the one behind", "in a ring"
    private static void planGoesRound() {
        for (int street = 0; street < 8; street++) {
            for (int at = 0; at < 8; at++) {
                DreamNets x = poacherAt(street);
                x.sleep(at, 1, 7);
                int far = Math.min((at - street + 8) % 8, (street - at + 8) % 8);
                for (int n = 1; n <= 4; n++) {
                    int least = Math.max(far, 1);
                    // 7 fallings stay 7: an eighth of them is none
                    C.due("28 from " + street + " to " + at + " by " + n, x.plan(0, n), n >= least ? 28 : 0);
                }
            }
        }
    }

    private static void planGoesOneStreetEachTime() {
        DreamNets x = poacherAt(0);
        x.sleep(4, 1, 40);
        C.due("28 four away by three", x.plan(0, 3), 0);
        stops(x, 0, 0, 0, 0);
        // 40, 45, 50, 56 behind three bells
        C.due("28 four away by four", x.plan(0, 4), 224);
        stops(x, 0, 1, 2, 3, 4);
        DreamNets y = poacherAt(1);
        y.sleep(6, 1, 7);
        C.due("28 three away, over 0", y.plan(0, 3), 28);
        stops(y, 0, 0, 7, 6);
    }

    // "of several the first by STREETS, one behind the other"
    private static void planOfSeveralTheFirstByStreets() {
        int[][] due = {{0, 0, 0, 0}, {0, 0, 0, 0}, {1, 0, 0, 0}, {2, 1, 0, 0}, {3, 2, 1, 0}, {4, 3, 2, 1}, {5, 4, 3, 2},
            {0, 0, 0, 0}};
        for (int street = 0; street < 8; street++) {
            stops(poacherAt(street), 0, due[street]);
        }
        // the same worth at the one ahead and at the one behind
        for (int street = 0; street < 8; street++) {
            DreamNets x = poacherAt(street);
            int ahead = (street + 7) % 8;
            int behind = (street + 1) % 8;
            x.sleep(ahead, 1, 7);
            x.sleep(behind, 1, 7);
            C.due("28 either", x.plan(0, 1), 28);
            stops(x, 0, Math.min(ahead, behind));
            x.sleep(street, 1, 7);
            stops(x, 0, Math.min(street, Math.min(ahead, behind)));
        }
        // the last street decides only among those that are alike ahead of it
        DreamNets y = poacherAt(4);
        y.sleep(5, 1, 7);
        y.sleep(3, 1, 7);
        C.due("28 both by three", y.plan(0, 3), 56);
        stops(y, 0, 3, 4, 5);
        C.due("28 one by two", y.plan(0, 2), 28);
        stops(y, 0, 3, 2);
    }

    // "to HAUL there (if it MAY)"
    private static void planRunsIntoTheQuota() {
        DreamNets x = poacherAt(2);
        x.sleep(2, 1, 40);
        x.sleep(1, 1, 7);
        x.quota(1, 1);
        C.due("28 one", x.plan(0, 1), 160);
        // 7 at 1, then 45 at 2
        C.due("28 two", x.plan(0, 2), 28 + 180);
        stops(x, 0, 1, 2);
        x.sleep(3, 1, 40);
        // the quota is reached by either street of the ward: 50 behind two bells
        C.due("28 three", x.plan(0, 3), 28 + 200);
        stops(x, 0, 1, 1, 2);
    }

    private static void planRunsIntoTears() {
        DreamNets x = Check.still();
        x.boat(4, 7, 0, 0);
        x.sleep(0, 4, 7);
        x.sleep(1, 3, 40);
        // nightmares tear by 9: 7 of them are 84; 34 of school are 204
        C.due("28 one", x.plan(0, 1), 204);
        stops(x, 0, 1);
        C.due("28 two: the nightmares last", x.plan(0, 2), 204 + 84);
        stops(x, 0, 1, 0);
    }

    private static void planOfABoatThatMayNot() {
        DreamNets x = Check.still();
        x.boat(4, 9, 6, 0);
        for (int street = 0; street < 8; street++) {
            x.sleep(street, 4, 7);
        }
        x.haul(0);
        C.due("12 torn", x.of(0, 4), 9);
        C.due("28 nothing", x.plan(0, 4), 0);
        stops(x, 0, 5, 4, 3, 2);
        x.patch(0);
        C.due("28 once", x.plan(0, 4), 84);
        for (int ward = 0; ward < 4; ward++) {
            x.quota(ward, 0);
        }
        C.due("28 nothing", x.plan(0, 4), 0);
    }

    private static void planIsOfWorthNotOfNumbers() {
        DreamNets x = Check.still();
        x.boat(1, 0, 3, 0);
        x.sleep(2, 2, 99);
        x.sleep(4, 4, 36);
        // 48 teeth are 96, 18 nightmares 216
        C.due("28 nightmares", x.plan(0, 1), 216);
        stops(x, 0, 4);
        x.price(2, 30);
        C.due("28 teeth by another price", x.plan(0, 1), 1440);
        stops(x, 0, 2);
    }

    // ---- 29: "The i-th STREET (0 to 3) of it. BAD; NONE: it has not so many."

    private static void stopAtItsEdges() {
        DreamNets x = poacherAt(0);
        int[] none = {-1, 4, LEAST, MOST};
        for (int n = 0; n <= 4; n++) {
            for (int i : none) {
                C.due("29 no i " + i + " of " + n, x.stop(0, n, i), -1);
            }
            for (int i = 0; i < 4; i++) {
                C.due("29 i " + i + " of " + n, x.stop(0, n, i), i < n ? 0 : -3);
            }
        }
    }

    // ---- 30: "FINE of a BOAT, by n (1 to 9)", "what = 0 the MESH, 1 WORTH together. BAD."

    private static void fineAtItsEdges() {
        DreamNets x = poacherAt(0);
        x.sleep(0, 1, 7);
        int[] noN = {0, -1, 10, LEAST, MOST};
        for (int n : noN) {
            C.due("30 no n " + n, x.fine(0, n, 0), -1);
        }
        int[] noWhat = {-1, 2, LEAST, MOST};
        for (int what : noWhat) {
            C.due("30 no what " + what, x.fine(0, 1, what), -1);
        }
        for (int n = 1; n <= 9; n++) {
            C.due("30 mesh by " + n, x.fine(0, n, 0), 3);
            C.due("30 worth by " + n, x.fine(0, n, 1), 28);
        }
    }

    // "of several the greatest"
    private static void fineOfSeveralTheGreatest() {
        for (int mesh = 0; mesh < 10; mesh++) {
            DreamNets x = poacherAt(0);
            x.mesh(0, mesh);
            C.due("30 of nothing", x.fine(0, 9, 0), 9);
            C.due("30 of nothing", x.fine(0, 9, 1), 0);
        }
        for (int sort = 0; sort < 5; sort++) {
            DreamNets x = Check.still();
            x.boat(1, 0, 5, 9);
            x.sleep(5, sort, 4);
            C.due("30 of sort " + sort, x.fine(0, 1, 0), SIZES[sort]);
            C.due("12 the mesh stays", x.of(0, 3), 9);
        }
    }

    private static void fineIfItMayEachTime() {
        DreamNets x = poacherAt(0);
        x.sleep(0, 1, 7);
        x.quota(0, 0);
        C.due("30 it may not", x.fine(0, 3, 0), 9);
        C.due("30 it may not", x.fine(0, 3, 1), 0);
        DreamNets y = Check.still();
        y.boat(4, 9, 0, 0);
        y.sleep(0, 4, 4);
        y.haul(0);
        y.sleep(0, 3, 99);
        C.due("30 it is torn", y.fine(0, 3, 0), 9);
        C.due("30 it is torn", y.fine(0, 3, 1), 0);
        y.patch(0);
        y.sleep(0, 4, 7);
        y.set(1, 20);
        // by a mesh of 5 or less: 66 of school, 7 nightmares, then it is torn; by 8: 7 nightmares
        C.due("30 once", y.fine(0, 9, 0), 5);
        C.due("30 once", y.fine(0, 9, 1), 66 * 6 + 84);
    }

    private static void fineRunsIntoTheQuota() {
        DreamNets x = Check.still();
        x.boat(5, 2, 0, 0);
        x.sleep(0, 2, 4);
        x.sleep(0, 3, 40);
        x.set(1, 20);
        x.quota(0, 12);
        // by a mesh of 2 to 5: 10 of school, then 8 of 32 (30 and one), together 108; by 1: 4 teeth too, and then it may not
        C.due("30 worth", x.fine(0, 2, 1), 60 + 42);
        C.due("30 mesh", x.fine(0, 2, 0), 5);
        C.due("30 worth of one", x.fine(0, 1, 1), 68);
        C.due("30 mesh of one", x.fine(0, 1, 0), 1);
    }

    // ---- 31: "in how many BELLS (0 to 48), .. some STREET has nothing of any SORT first"

    private static void lastsOfAnEmptyStreetNow() {
        C.due("31 all", new DreamNets().lasts(), 0);
        for (int street = 0; street < 8; street++) {
            DreamNets x = new DreamNets();
            for (int other = 0; other < 8; other++) {
                x.sleep(other, 3, other == street ? 0 : 9);
            }
            C.due("31 street " + street, x.lasts(), 0);
            for (int sort = 0; sort < 5; sort++) {
                x.sleep(street, sort, 1);
                C.due("31 it has one of " + sort, x.lasts(), -3);
                x.sleep(street, sort, 0);
            }
        }
    }

    /** Flying goes round, a street each bell; a drifter at 2 takes a quarter and 1 of what comes by, of 10 last. */
    private static DreamNets carousel() {
        DreamNets x = Check.still();
        x.set(1, 20);
        x.set(2, 1);
        x.boat(2, 1, 2, 2);
        for (int street = 0; street < 8; street++) {
            x.sleep(street, 0, street == 3 ? 10 : 19);
            x.sleep(street, 2, 1);
        }
        return x;
    }

    private static void countsDown(DreamNets x, int from) {
        for (int left = from; left >= 0; left--) {
            C.due("31 lasts", x.lasts(), left);
            x.haul(0);
            x.bells(1);
        }
    }

    private static void lastsForFortyEight() {
        DreamNets x = carousel();
        x.sleep(3, 2, 0);
        countsDown(x, 48);
    }

    // "NONE: not by then."
    private static void lastsNotByThen() {
        DreamNets x = carousel();
        x.sleep(4, 2, 0);
        C.due("31 behind 49", x.lasts(), -3);
        x.haul(0);
        x.bells(1);
        countsDown(x, 48);
    }

    private static void lastsWithoutBoats() {
        DreamNets x = Check.still();
        for (int street = 0; street < 8; street++) {
            x.sleep(street, 3, 1);
        }
        C.due("31 never", x.lasts(), -3);
        // all of flying goes on to the next, and nothing comes to 1
        DreamNets y = Check.still();
        y.set(2, 1);
        for (int street = 0; street < 8; street++) {
            y.sleep(street, street == 1 ? 0 : 3, 1);
        }
        C.due("31 it drifts off", y.lasts(), 1);
    }

    // "(by numbers, if they MAY)": the first may fill the quota
    private static void lastsOfBoatsByNumbers() {
        DreamNets x = Check.still();
        for (int street = 0; street < 8; street++) {
            x.sleep(street, 1, 7);
            x.sleep(street, 3, 5);
        }
        x.boat(5, 1, 0, 0);
        x.boat(5, 3, 1, 0);
        C.due("31 one of the two sorts each", x.lasts(), -3);
        x.move(1, 0);
        C.due("31 both sorts", x.lasts(), 1);
        // the first takes 7 of falling and 1 of school
        x.quota(0, 9);
        C.due("31 both may", x.lasts(), 1);
        x.quota(0, 8);
        C.due("31 the first fills the quota", x.lasts(), -3);
    }

    // a street that is empty ahead of a bell only doesn't count
    private static void lastsLooksBehindTheBell() {
        DreamNets x = Check.still();
        for (int street = 0; street < 8; street++) {
            x.sleep(street, 1, 7);
        }
        x.boat(5, 1, 3, 0);
        C.due("31 empty behind one", x.lasts(), 1);
        x.sleep(3, 5, 1);
        C.due("31 one of flying is born, then others", x.lasts(), -3);
        x.sleep(3, 5, 0);
        x.quota(1, 0);
        C.due("31 it may not", x.lasts(), -3);
    }

    // ---- 32: "what = 0 how many pairs, 1 the first. BAD; -11: the SHEET is missing; NONE (of 1): there is none."

    private static void shoalAtItsEdges() {
        DreamNets x = new DreamNets();
        x.sheet(0, 2, 1);
        x.sheet(3, 2, 1);
        int[] noSheet = {-1, 4, LEAST, MOST};
        for (int sheet : noSheet) {
            C.due("32 no sheet " + sheet, x.shoal(sheet, 0), -1);
        }
        int[] noWhat = {-1, 2, LEAST, MOST};
        for (int what : noWhat) {
            C.due("32 no what " + what, x.shoal(0, what), -1);
            C.due("32 no what of a missing sheet " + what, x.shoal(1, what), -1);
        }
        C.due("32 the first sheet", x.shoal(0, 0), 40);
        C.due("32 the last sheet", x.shoal(3, 0), 40);
    }

    private static void shoalOfAMissingSheet() {
        DreamNets x = new DreamNets();
        for (int sheet = 0; sheet < 4; sheet++) {
            C.due("32 missing", x.shoal(sheet, 0), -11);
            C.due("32 missing", x.shoal(sheet, 1), -11);
            x.sheet(sheet, 0, 0);
            C.due("32 there", x.shoal(sheet, 0), 40);
            x.sheet(sheet, -1, 0);
            C.due("32 missing again", x.shoal(sheet, 1), -11);
        }
    }

    private static void shoalOfAnEmptySheet() {
        for (int sort = 0; sort < 4; sort++) {
            DreamNets x = new DreamNets();
            x.sleep(0, 0, 5);
            x.sheet(2, sort, 0);
            C.due("32 all pairs", x.shoal(2, 0), 40);
            C.due("32 the first", x.shoal(2, 1), 0);
        }
    }

    private static void shoalOfForty() {
        DreamNets x = new DreamNets();
        DreamNets y = new DreamNets();
        DreamNets[] both = {x, y};
        for (DreamNets one : both) {
            one.sleep(5, 3, 11);
            one.sleep(5, 5, 7);
        }
        x.sheet(1, 0, 40);
        for (int i = 0; i < 40; i++) {
            x.put(1, i, y.street(5, 3));
            y.bells(1);
        }
        C.due("32 it", x.shoal(1, 0), 1);
        C.due("32 it", x.shoal(1, 1), 53);
        int[] places = {0, 1, 20, 38, 39};
        for (int i : places) {
            int was = x.item(1, 0, i);
            x.put(1, i, was + 1);
            C.due("32 but one number", x.shoal(1, 0), 0);
            C.due("32 but one number", x.shoal(1, 1), -3);
            x.put(1, i, was);
            C.due("32 it again", x.shoal(1, 1), 53);
        }
        C.due("27 no bell went", x.state(0), 0);
    }

    // "NONE (of 1): there is none."
    private static void shoalOfNone() {
        DreamNets x = new DreamNets();
        x.sheet(0, 3, 1);
        int[] none = {1, -1, 100, LEAST, MOST};
        for (int v : none) {
            x.put(0, 0, v);
            C.due("32 how many", x.shoal(0, 0), 0);
            C.due("32 the first", x.shoal(0, 1), -3);
        }
    }

    // "the first (by STREET, then SORT): 10 times the STREET, and the SORT"
    private static void shoalFirstByStreetThenSort() {
        DreamNets x = new DreamNets();
        x.sheet(0, 1, 1);
        x.put(0, 0, 50);
        int many = 0;
        for (int street = 7; street >= 0; street--) {
            for (int sort = 4; sort >= 0; sort--) {
                x.sleep(street, sort, 50);
                many++;
                C.due("32 how many", x.shoal(0, 0), many);
                C.due("32 the first", x.shoal(0, 1), 10 * street + sort);
            }
        }
    }

    private static void shoalOfEverySortOfSheet() {
        int[] numbers = {99, 99 + 256, 99 + 65536, 99 - 256, 98};
        for (int sort = 0; sort < 4; sort++) {
            DreamNets x = new DreamNets();
            x.sleep(7, 4, 99);
            x.sheet(0, sort, 1);
            for (int v : numbers) {
                x.put(0, 0, v);
                int narrowed = sort == 0 ? (byte) v : sort == 1 ? (short) v : v;
                C.due("32 sort " + sort + " of " + v, x.shoal(0, 0), narrowed == 99 ? 1 : 0);
                C.due("32 sort " + sort + " of " + v, x.shoal(0, 1), narrowed == 99 ? 74 : -3);
            }
        }
    }

    // ---- 33: "PIECES (v 0 to 999; 0: the empty set). BAD; NONE."

    /** Boats that hold so much of teeth. */
    private static DreamNets holding(int... held) {
        DreamNets x = Check.still();
        for (int boat = 0; boat < held.length; boat++) {
            x.boat(5, 2, 4, 0);
            x.sleep(4, 2, held[boat]);
            x.haul(boat);
        }
        return x;
    }

    private static void piecesAtTheirEdges() {
        DreamNets x = holding(5);
        int[] noSort = {-1, 5, LEAST, MOST};
        for (int sort : noSort) {
            C.due("33 no sort " + sort, x.pieces(sort, 0), -1);
        }
        int[] noV = {-1, 1000, LEAST, MOST};
        for (int v : noV) {
            C.due("33 no v " + v, x.pieces(2, v), -1);
        }
        C.due("33 just it", x.pieces(2, 5), 1);
        C.due("33 one less", x.pieces(2, 4), -3);
        C.due("33 one more", x.pieces(2, 6), -3);
        C.due("33 of another sort", x.pieces(1, 5), -3);
    }

    private static void piecesOfZero() {
        C.due("33 no boats", new DreamNets().pieces(0, 0), 0);
        C.due("33 boats that hold nothing", holding(0, 0, 0).pieces(2, 0), 0);
        C.due("33 boats that hold something", holding(1, 2, 3).pieces(2, 0), 0);
    }

    // "NONE"
    private static void piecesOfNone() {
        C.due("33 no boats", new DreamNets().pieces(0, 1), -3);
        C.due("33 boats that hold nothing", holding(0, 0).pieces(2, 1), -3);
        C.due("33 too little by all", holding(1, 2, 4).pieces(2, 8), -3);
        C.due("33 none between", holding(5, 5, 5).pieces(2, 7), -3);
        C.due("33 the most", holding(1).pieces(2, 999), -3);
    }

    private static void piecesOfMost() {
        DreamNets x = holding(99, 9);
        for (int i = 0; i < 9; i++) {
            x.sleep(6, 2, 99);
            x.move(0, 6);
            x.haul(0);
        }
        C.due("12 held", x.of(0, 7), 990);
        C.due("33 990", x.pieces(2, 990), 1);
        C.due("33 999", x.pieces(2, 999), 3);
        C.due("33 all six", holding(1, 2, 4, 8, 16, 32).pieces(2, 63), 63);
        for (int v = 0; v < 64; v++) {
            C.due("33 by bits", holding(1, 2, 4, 8, 16, 32).pieces(2, v), v);
        }
    }

    // "of all such sets those of fewest"
    private static void piecesOfFewest() {
        C.due("33 one, not two below it", holding(1, 2, 3).pieces(2, 3), 4);
        C.due("33 one, not five below it", holding(1, 1, 1, 1, 1, 5).pieces(2, 5), 32);
        C.due("33 two, not three", holding(1, 2, 3, 3).pieces(2, 6), 12);
        C.due("33 none of those that hold nothing", holding(0, 0, 4).pieces(2, 4), 4);
    }

    // "of these the least number"
    private static void piecesOfTheLeastNumber() {
        C.due("33 the first of three alike", holding(4, 4, 4).pieces(2, 4), 1);
        C.due("33 6, not 9", holding(1, 2, 3, 4).pieces(2, 5), 6);
        C.due("33 two of four alike", holding(4, 4, 4, 4).pieces(2, 8), 3);
        C.due("33 12, not 33", holding(1, 9, 3, 4, 9, 6).pieces(2, 7), 12);
    }

    // ---- 34: "the WARD of which most was TAKEN by SLEEPERS (both STREETS together; 1 at least); of several the least"

    /** So much taken of each ward. */
    private static DreamNets taken(int... much) {
        DreamNets x = Check.still();
        x.boat(5, 2, 0, 0);
        for (int ward = 0; ward < 4; ward++) {
            x.move(0, 2 * ward + ward % 2);
            x.sleep(2 * ward + ward % 2, 2, much[ward]);
            x.haul(0);
            x.sleep(2 * ward, 5, 1);
        }
        return x;
    }

    private static void givesOfNothing() {
        C.due("34 nothing was taken", new DreamNets().gives(), 0);
        C.due("34 nothing was taken, no one sleeps", Check.still().gives(), 0);
        C.due("34 of the last alone", taken(0, 0, 0, 1).gives(), 3);
        C.due("34 of the first alone", taken(1, 0, 0, 0).gives(), 0);
    }

    // "1 at least"
    private static void givesOfOneSleeperAtLeast() {
        DreamNets x = taken(4, 4, 9, 4);
        x.sleep(4, 5, 2);
        for (int ward = 0; ward < 4; ward++) {
            if (ward != 2) {
                x.sleep(2 * ward, 5, 0);
            }
        }
        C.due("34 9 by 2 is more than 4 by none", x.gives(), 2);
        x.sleep(5, 5, 1);
        C.due("34 9 by 3 is less than 4 by none", x.gives(), 0);
        x.sleep(4, 5, 0);
        C.due("34 9 by 1", x.gives(), 2);
        DreamNets y = taken(5, 5, 0, 0);
        y.sleep(2, 5, 0);
        C.due("34 5 by 1 is as 5 by none", y.gives(), 0);
        y.sleep(2, 5, 1);
        y.sleep(0, 5, 0);
        C.due("34 5 by none is as 5 by 1", y.gives(), 0);
    }

    private static void givesOfSeveralTheLeast() {
        C.due("34 all alike", taken(3, 3, 3, 3).gives(), 0);
        C.due("34 the last three alike", taken(2, 3, 3, 3).gives(), 1);
        C.due("34 the last two alike", taken(2, 2, 3, 3).gives(), 2);
        C.due("34 two apart", taken(2, 3, 2, 3).gives(), 1);
        DreamNets x = taken(4, 8, 2, 6);
        x.sleep(0, 5, 2);
        x.sleep(2, 5, 4);
        x.sleep(6, 5, 3);
        C.due("34 4 by 2, 8 by 4, 2 by 1, 6 by 3", x.gives(), 0);
    }

    // "as a fraction"
    private static void givesByAFractionThatIsNotCut() {
        DreamNets x = taken(50, 51, 0, 0);
        x.sleep(0, 5, 9);
        x.sleep(1, 5, 8);
        x.sleep(2, 5, 9);
        x.sleep(3, 5, 9);
        // 50 by 17 is 2.94, 51 by 18 is 2.83
        C.due("34 50 by 17", x.gives(), 0);
        x.sleep(1, 5, 9);
        C.due("34 50 by 18, 51 by 18", x.gives(), 1);
        DreamNets y = taken(7, 5, 0, 0);
        y.sleep(0, 5, 4);
        y.sleep(2, 5, 3);
        // 1.75 and 1.66
        C.due("34 7 by 4", y.gives(), 0);
        y.sleep(0, 5, 5);
        C.due("34 7 by 5", y.gives(), 1);
    }

    // ---- 35: "The fewest BELLS (0 to 48), .. behind which the STOCK of a SORT is v (0 to 99) or more first. BAD; NONE"

    private static void whenAtItsEdges() {
        DreamNets x = new DreamNets();
        int[] noStreet = {-1, 8, LEAST, MOST};
        int[] noSort = {-1, 5, LEAST, MOST};
        int[] noV = {-1, 100, LEAST, MOST};
        for (int i = 0; i < 4; i++) {
            C.due("35 no street " + noStreet[i], x.when(noStreet[i], 0, 0), -1);
            C.due("35 no sort " + noSort[i], x.when(0, noSort[i], 0), -1);
            C.due("35 no v " + noV[i], x.when(0, 0, noV[i]), -1);
        }
        C.due("35 the last of each", x.when(7, 4, 0), 0);
    }

    private static void whenNow() {
        DreamNets x = Check.still();
        x.sleep(6, 2, 50);
        C.due("35 0", x.when(6, 2, 0), 0);
        C.due("35 one less", x.when(6, 2, 49), 0);
        C.due("35 just it", x.when(6, 2, 50), 0);
        C.due("35 one more", x.when(6, 2, 51), 1);
        x.sleep(6, 2, 99);
        C.due("35 the most", x.when(6, 2, 99), 0);
    }

    private static void whenBehindFortyEight() {
        DreamNets x = Check.still();
        x.set(1, 20);
        x.sleep(3, 5, 1);
        // of teeth one at the bells 2, 7, .. 47: ten of them behind 48
        for (int left = 48; left >= 0; left--) {
            C.due("35 ten", x.when(3, 2, 10), left);
            x.bells(1);
        }
    }

    // "NONE: not by then."
    private static void whenNotByThen() {
        DreamNets x = Check.still();
        x.set(1, 20);
        C.due("35 never one", x.when(0, 0, 1), -3);
        C.due("35 always none", x.when(0, 0, 0), 0);
        x.sleep(3, 5, 1);
        // of school one at the bells 3, 8, .. 48: the tenth behind 49
        C.due("35 ten behind 49", x.when(3, 3, 10), -3);
        C.due("35 nine behind 44", x.when(3, 3, 9), 44);
        x.bells(1);
        C.due("35 ten behind 48", x.when(3, 3, 10), 48);
    }

    // "v .. or more": the stock may jump over it
    private static void whenOrMore() {
        DreamNets x = Check.still();
        x.set(1, 1);
        x.sleep(0, 4, 3);
        int[] due = {0, 0, 0, 0, 1, 1, 1, 2, 2, 2, 2, 2, 2, 3};
        for (int v = 0; v < due.length; v++) {
            C.due("35 " + v + " or more", x.when(0, 4, v), due[v]);
        }
        C.due("35 99 at most", x.when(0, 4, 99), 6);
        // flying drifts off: it may be there but for a while
        DreamNets y = Check.still();
        y.set(2, 1);
        y.sleep(1, 0, 7);
        C.due("35 at 4 behind three", y.when(4, 0, 7), 3);
        C.due("35 at 0 behind seven", y.when(0, 0, 7), 7);
        C.due("35 never more of 7", y.when(4, 0, 8), -3);
    }

    // ---- 36: "ODDS by n (0 to 8): a part of them. BAD."

    private static void oddsAtTheirEdges() {
        DreamNets x = new DreamNets();
        int[] noN = {-1, 9, LEAST, MOST};
        for (int n : noN) {
            C.due("36 no n " + n, x.odds(n, 0), -1);
            C.due("36 no n " + n, x.odds(n, 1), -1);
        }
        int[] noPart = {-1, 2, LEAST, MOST};
        for (int part : noPart) {
            C.due("36 no part " + part, x.odds(1, part), -1);
        }
    }

    // "(0 is 0 by 1)"
    private static void oddsOfNoCasts() {
        int[] wakes = {0, 1, 10, 99};
        for (int wake : wakes) {
            DreamNets x = new DreamNets();
            x.set(0, wake);
            C.due("36 of none", x.odds(0, 0), 0);
            C.due("36 of none", x.odds(0, 1), 1);
        }
    }

    private static void oddsWithoutWake() {
        DreamNets x = new DreamNets();
        x.set(0, 0);
        for (int n = 1; n <= 8; n++) {
            C.due("36 sure", x.odds(n, 0), 1);
            C.due("36 sure", x.odds(n, 1), 1);
        }
    }

    private static void oddsOfTheMost() {
        DreamNets x = new DreamNets();
        x.set(0, 99);
        long[] above = {0, 1, 199, 29701};
        long below = 1;
        for (int n = 0; n < 4; n++) {
            C.due("36 by " + n, x.odds(n, 0), above[n]);
            C.due("36 by " + n, x.odds(n, 1), below);
            below *= 100;
        }
        C.due("36 by 8", x.odds(8, 0), 772553055720799L);
        C.due("36 by 8", x.odds(8, 1), 10000000000000000L);
    }

    // "without a common divisor"
    private static void oddsWithoutACommonDivisor() {
        long[][] due = {{50, 1, 1, 2}, {50, 2, 3, 4}, {50, 8, 255, 256}, {20, 1, 4, 5}, {20, 3, 124, 125}, {25, 2, 15, 16},
            {75, 1, 1, 4}, {75, 3, 37, 64}, {98, 1, 1, 50}, {99, 1, 1, 100}, {1, 1, 99, 100}, {10, 8, 99999999, 100000000}};
        for (long[] v : due) {
            DreamNets x = new DreamNets();
            x.set(0, (int) v[0]);
            C.due("36 above, by a wake of " + v[0], x.odds((int) v[1], 0), v[2]);
            C.due("36 below, by a wake of " + v[0], x.odds((int) v[1], 1), v[3]);
        }
    }

    // ---- 37: "HOPE by n (0 to 5): a part of it. BAD."

    private static void hope(DreamNets x, int n, long above, long below) {
        C.due("37 above, of " + n, x.hope(0, n, 0), above);
        C.due("37 below, of " + n, x.hope(0, n, 1), below);
    }

    private static void hopeAtItsEdges() {
        DreamNets x = poacherAt(0);
        int[] noN = {-1, 6, LEAST, MOST};
        for (int n : noN) {
            C.due("37 no n " + n, x.hope(0, n, 0), -1);
            C.due("37 no n " + n, x.hope(0, n, 1), -1);
        }
        int[] noPart = {-1, 2, LEAST, MOST};
        for (int part : noPart) {
            C.due("37 no part " + part, x.hope(0, 1, part), -1);
        }
    }

    private static void hopeOfNoCasts() {
        DreamNets x = poacherAt(0);
        x.sleep(0, 1, 99);
        hope(x, 0, 0, 1);
    }

    private static void hopeOfNothing() {
        for (int n = 0; n <= 5; n++) {
            hope(poacherAt(0), n, 0, 1);
        }
        DreamNets x = poacherAt(0);
        x.sleep(0, 1, 99);
        x.quota(0, 0);
        hope(x, 5, 0, 1);
    }

    private static void hopeWithoutWake() {
        DreamNets x = poacherAt(0);
        x.set(0, 0);
        x.sleep(0, 1, 99);
        for (int n = 1; n <= 5; n++) {
            hope(x, n, 396, 1);
        }
        x.set(0, 99);
        // 396 by one of a hundred; by two 199 of ten thousand
        hope(x, 1, 99, 25);
        hope(x, 2, 396 * 199 / 4, 2500);
    }

    // "one behind the other": a haul that fills the quota ends it
    private static void hopeRunsIntoTheQuota() {
        DreamNets x = Check.still();
        x.boat(0, 0, 6, 0);
        x.sleep(6, 1, 64);
        x.set(0, 50);
        x.quota(3, 17);
        // 16, then 12, then it may not: 64 * 7 / 8 + 48 * 4 / 8
        hope(x, 3, 80, 1);
        x.quota(3, 16);
        hope(x, 3, 56, 1);
        x.quota(3, 28);
        hope(x, 3, 80, 1);
        x.quota(3, 29);
        // and 9 more, of the third: 36 / 8
        hope(x, 3, 169, 2);
    }

    private static void hopeRunsIntoTears() {
        DreamNets x = Check.still();
        x.boat(4, 7, 0, 0);
        x.sleep(0, 4, 99);
        x.set(0, 50);
        // 62 of 99, then it is torn by 9
        hope(x, 1, 372, 1);
        hope(x, 2, 558, 1);
        x.mind(0, 4, 6);
        // 60 of 99, torn by 8; 30 of 39 then: 720 * 3 / 4 + 360 / 4
        hope(x, 2, 630, 1);
        // and then it is torn: 720 * 7 / 8 + 360 * 4 / 8
        hope(x, 3, 810, 1);
        C.due("12 it isn't torn now", x.of(0, 4), 0);
    }

    private static void hopeOfFive() {
        DreamNets x = poacherAt(0);
        x.set(0, 99);
        x.sleep(0, 1, 1);
        x.price(1, 1);
        // 1 - 0.99 ^ 5 = 490099501 by ten thousand millions
        hope(x, 5, 490099501L, 10000000000L);
        x.price(1, 30);
        hope(x, 5, 490099501L * 3, 1000000000L);
    }
}
