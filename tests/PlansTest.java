/** Promises 28 to 37: what is tried and changes nothing. */
public final class PlansTest {
    private static final Check C = new Check("PlansTest");

    public static void main(String[] args) {
        plans();
        plansOfSeveral();
        plansOfEach();
        plansGoRound();
        fines();
        lasts();
        shoals();
        pieces();
        gives();
        whens();
        odds();
        hopes();
        C.end();
    }

    private static void plans() {
        DreamNets x = new DreamNets();
        C.due("28 none", x.plan(0, 0), -1);
        C.due("29 none", x.stop(0, 1, 0), -1);
        x.boat(0, 0, 3, 0);
        for (int street = 0; street < 8; street++) {
            x.sleep(street, 5, 0);
        }
        x.set(1, 20);
        // nothing is born below 20; falling doesn't drift
        x.sleep(3, 1, 8);
        x.sleep(2, 1, 16);
        x.sleep(1, 1, 19);
        x.sleep(4, 1, 12);
        C.due("28 n 0", x.plan(0, 0), 0);
        C.due("28 one haul: 4 of 16", x.plan(0, 1), 16);
        C.due("29 at 2", x.stop(0, 1, 0), 2);
        // 2 then 1: 4 + 4; 2 then 2: 4 + 3
        C.due("28 two", x.plan(0, 2), 32);
        C.due("29 first", x.stop(0, 2, 0), 2);
        C.due("29 second", x.stop(0, 2, 1), 1);
        // 2, 1, then 1 (19 - 4 = 15: 3) or 2 (12: 3): the first by streets is 2 1 1
        C.due("28 three", x.plan(0, 3), 44);
        C.due("29 first", x.stop(0, 3, 0), 2);
        C.due("29 second", x.stop(0, 3, 1), 1);
        C.due("29 third", x.stop(0, 3, 2), 1);
        C.due("29 not so many", x.stop(0, 3, 3), -3);
        C.due("29 not so many", x.stop(0, 0, 0), -3);
        C.due("29 no i", x.stop(0, 3, 4), -1);
        C.due("29 no i", x.stop(0, 3, -1), -1);
        C.due("29 no i of none", x.stop(0, 0, 4), -1);
        C.due("28 n", x.plan(0, 5), -1);
        C.due("28 n", x.plan(0, -1), -1);
        C.due("29 n", x.stop(0, 5, 0), -1);
        C.due("29 n", x.stop(0, -1, 0), -1);
        C.due("28 no boat", x.plan(1, 1), -1);
        C.due("29 no boat", x.stop(1, 1, 0), -1);
        C.due("28 nothing changes", x.of(0, 2), 3);
        C.due("28 nothing changes", x.state(2), 55);
        C.due("28 nothing changes", x.state(0), 0);
        C.due("28 nothing changes", x.state(3), 0);
        // a bell goes behind each: of 20 one more is born
        x.sleep(3, 1, 20);
        C.due("28 one", x.plan(0, 1), 20);
        x.move(0, 7);
        x.sleep(7, 1, 80);
        // 20 of 80, 60 + 3; 15 of 63
        C.due("28 with a bell", x.plan(0, 2), 80 + 60);
        // it may not where the quota is taken, but goes through
        x.quota(3, 0);
        x.sleep(1, 1, 0);
        C.due("28 may not", x.plan(0, 2), 0);
        x.sleep(1, 1, 40);
        C.due("28 through", x.plan(0, 2), 40);
        C.due("29 through", x.stop(0, 2, 0), 0);
        C.due("29 through", x.stop(0, 2, 1), 1);
    }

    private static void plansOfSeveral() {
        DreamNets x = new DreamNets();
        x.boat(0, 0, 7, 0);
        // nothing anywhere: the first by streets, 0 0 0 0
        x.mesh(0, 9);
        for (int i = 0; i < 4; i++) {
            C.due("29 of all alike", x.stop(0, 4, i), 0);
        }
        x.move(0, 0);
        for (int i = 0; i < 4; i++) {
            C.due("29 of all alike", x.stop(0, 4, i), 0);
        }
        x.move(0, 4);
        int[] due = {3, 2, 1, 0};
        for (int i = 0; i < 4; i++) {
            C.due("29 of all alike", x.stop(0, 4, i), due[i]);
        }
        // by the number of the street, not ahead of it or behind it
        DreamNets y = new DreamNets();
        y.boat(0, 0, 0, 0);
        y.sleep(1, 1, 40);
        y.sleep(7, 1, 40);
        C.due("28 either", y.plan(0, 1), 40);
        C.due("29 the lower", y.stop(0, 1, 0), 1);
    }

    private static void plansOfEach() {
        DreamNets x = new DreamNets();
        x.boat(0, 0, 0, 0);
        x.boat(1, 0, 4, 0);
        x.sleep(0, 1, 40);
        x.sleep(4, 1, 40);
        C.due("28 of the first", x.plan(0, 1), 40);
        C.due("28 of the second", x.plan(1, 1), 80);
        C.due("29 of the second", x.stop(1, 1, 0), 4);
        C.due("29 of the first", x.stop(0, 1, 0), 0);
        C.due("30 of the second", x.fine(1, 1, 1), 80);
        C.due("37 of the second", x.hope(1, 1, 0), 72);
    }

    private static void plansGoRound() {
        DreamNets x = new DreamNets();
        x.boat(0, 0, 0, 0);
        x.sleep(7, 1, 40);
        C.due("28 ahead of 0", x.plan(0, 1), 40);
        C.due("29 is 7", x.stop(0, 1, 0), 7);
        x.sleep(0, 1, 44);
        x.move(0, 7);
        C.due("28 behind 7", x.plan(0, 1), 44);
        C.due("29 is 0", x.stop(0, 1, 0), 0);
        x.move(0, 5);
        C.due("28 too far", x.plan(0, 1), 0);
        x.sleep(7, 1, 0);
        x.move(0, 2);
        // two on: 11 of 44 + 5 behind a bell
        C.due("28 two on", x.plan(0, 2), 48);
        C.due("28 one on is too few", x.plan(0, 1), 0);
    }

    private static void fines() {
        DreamNets x = new DreamNets();
        C.due("30 none", x.fine(0, 1, 0), -1);
        x.boat(0, 0, 2, 4);
        C.due("30 of nothing the greatest", x.fine(0, 1, 0), 9);
        C.due("30 of nothing", x.fine(0, 1, 1), 0);
        x.sleep(2, 1, 40);
        C.due("30 falling is of size 3", x.fine(0, 1, 0), 3);
        C.due("30 worth", x.fine(0, 1, 1), 40);
        x.sleep(2, 2, 4);
        C.due("30 teeth too", x.fine(0, 1, 0), 1);
        C.due("30 worth", x.fine(0, 1, 1), 42);
        // nightmares tear: a dredger of 7 may but once with a mesh below 9
        DreamNets y = new DreamNets();
        y.boat(4, 7, 0, 0);
        y.sleep(0, 4, 2);
        y.sleep(0, 3, 99);
        for (int street = 0; street < 8; street++) {
            y.sleep(street, 5, 0);
        }
        y.set(1, 20);
        // mesh 5: school (24 + 7) * 2 = 62, and 2 nightmares, then it's torn: 372 + 24; mesh 8: 24
        C.due("30 once", y.fine(0, 1, 1), 396);
        C.due("30 mesh", y.fine(0, 1, 0), 5);
        C.due("30 torn behind the first", y.fine(0, 9, 1), 396);
        // a tug tears with a mesh below 3 alone
        C.due("30 n", y.fine(0, 0, 0), -1);
        C.due("30 n", y.fine(0, 10, 0), -1);
        C.due("30 n", y.fine(0, -1, 0), -1);
        C.due("30 what", y.fine(0, 1, 2), -1);
        C.due("30 what", y.fine(0, 1, -1), -1);
        C.due("30 no boat", y.fine(1, 1, 0), -1);
        C.due("30 nothing changes", y.of(0, 3), 0);
        C.due("30 nothing changes", y.of(0, 4), 0);
        C.due("30 nothing changes", y.state(0), 0);
        C.due("30 nothing changes", y.state(2), 101);
        tugsByMesh();
        bellsBehindEach();
    }

    private static void tugsByMesh() {
        DreamNets x = new DreamNets();
        x.boat(3, 0, 0, 9);
        for (int street = 0; street < 8; street++) {
            x.sleep(street, 5, 0);
        }
        x.set(1, 1);
        x.set(2, 20);
        x.sleep(0, 4, 99);
        x.sleep(0, 0, 2);
        // flying is doubled each bell: meshes to 2 take it, and 9 tears stop no 9 hauls
        DreamNets y = new DreamNets();
        y.boat(3, 0, 0, 2);
        for (int street = 0; street < 8; street++) {
            y.sleep(street, 5, 0);
        }
        y.set(1, 1);
        y.set(2, 20);
        y.sleep(0, 4, 99);
        y.sleep(0, 0, 2);
        int worth = 0;
        for (int i = 0; i < 9; i++) {
            int before = y.of(0, 10);
            y.haul(0);
            y.bells(1);
            worth += y.of(0, 10) - before;
        }
        C.due("30 torn to 9 by then", y.of(0, 4), 9);
        C.due("30 a tug's mesh", x.fine(0, 9, 0), 2);
        C.due("30 a tug's worth", x.fine(0, 9, 1), worth);
    }

    private static void bellsBehindEach() {
        DreamNets x = new DreamNets();
        x.boat(0, 0, 0, 0);
        x.set(1, 20);
        x.sleep(0, 1, 80);
        // 20; 60 + 3 = 63: 15; 48 + 2 + 3 sleepers = 53: 13 (the sleepers' turn is the second bell)
        C.due("30 three hauls", x.fine(0, 3, 1), 4 * (20 + 15 + 13) + 0);
        C.due("30 mesh", x.fine(0, 3, 0), 3);
    }

    private static void lasts() {
        DreamNets x = new DreamNets();
        C.due("31 empty now", x.lasts(), 0);
        for (int street = 0; street < 8; street++) {
            x.sleep(street, 1, 50);
        }
        C.due("31 not by then", x.lasts(), -3);
        x.boat(5, 1, 3, 0);
        // the poacher takes all at once, and three are born of flying behind a bell
        C.due("31 flying is born", x.lasts(), -3);
        x.sleep(3, 5, 0);
        x.sleep(2, 5, 0);
        x.sleep(1, 5, 0);
        x.sleep(0, 5, 0);
        x.sleep(7, 5, 0);
        x.sleep(6, 5, 0);
        x.sleep(5, 5, 0);
        x.sleep(4, 5, 0);
        C.due("31 behind one", x.lasts(), 1);
        C.due("31 nothing changes", x.street(3, 1), 50);
        C.due("31 nothing changes", x.state(0), 0);
        C.due("31 nothing changes", x.of(0, 6), 0);
        x.mind(0, 5, 2);
        // as a boat by quarters a few always stay
        C.due("31 never", x.lasts(), -3);
        x.mind(0, 2, 5);
        x.set(1, 20);
        // 50: 12 + 5, 33 (+1) 34: 8 + 5, 21 (+1) 22: 5 + 5, 12: 3 + 5, 4: all 4
        C.due("31 behind five", x.lasts(), 5);
        x.boat(2, 9, 4, 0);
        // 50: 12 + 9, 29 (+1) 30: 7 + 9, 14: 3 + 9, 2: all
        C.due("31 all boats haul", x.lasts(), 4);
        x.quota(2, 0);
        C.due("31 if they may", x.lasts(), 5);
        x.quota(1, 1);
        C.due("31 if they may", x.lasts(), -3);
        lastsAtTheMost();
    }

    private static void lastsAtTheMost() {
        DreamNets x = new DreamNets();
        for (int street = 0; street < 8; street++) {
            x.sleep(street, 5, 0);
            x.sleep(street, 1, 19);
        }
        x.set(1, 20);
        x.boat(2, 1, 0, 0);
        // by 4 + 1, 3 + 1, ..: 19, 14, 10, 7, 5, 3, 2, 1, 0
        C.due("31 behind eight", x.lasts(), 8);
        // Flying goes round, a street each bell, and a drifter takes a quarter and 1 of what comes by: of the 10 that
        // come to it at the bells 7, 15, .. 47 then 7, 5, 3, 2, 1 and none are left, and come to street 3 behind 48.
        DreamNets y = new DreamNets();
        y.set(1, 20);
        y.set(2, 1);
        y.boat(2, 1, 2, 2);
        for (int street = 0; street < 8; street++) {
            y.sleep(street, 5, 0);
            y.sleep(street, 0, street == 3 ? 10 : 19);
            y.sleep(street, 2, street == 3 ? 0 : 1);
        }
        C.due("31 behind 48", y.lasts(), 48);
        y.sleep(3, 2, 1);
        y.sleep(4, 2, 0);
        C.due("31 behind 49: not by then", y.lasts(), -3);
    }

    private static void shoals() {
        DreamNets x = new DreamNets();
        C.due("32 no sheet", x.shoal(4, 0), -1);
        C.due("32 no sheet", x.shoal(-1, 0), -1);
        C.due("32 what", x.shoal(0, 2), -1);
        C.due("32 what", x.shoal(0, -1), -1);
        C.due("32 missing", x.shoal(0, 0), -11);
        C.due("32 missing", x.shoal(0, 1), -11);
        x.sheet(0, 2, 0);
        C.due("32 no numbers: all", x.shoal(0, 0), 40);
        C.due("32 no numbers: the first", x.shoal(0, 1), 0);
        x.sheet(0, 3, 3);
        x.put(0, 0, 40);
        x.put(0, 1, 45);
        x.put(0, 2, 50);
        C.due("32 none", x.shoal(0, 0), 0);
        C.due("32 none", x.shoal(0, 1), -3);
        // 40, 45, 50 by an eighth each
        x.sleep(6, 3, 40);
        C.due("32 one", x.shoal(0, 0), 1);
        C.due("32 it", x.shoal(0, 1), 63);
        x.sleep(4, 4, 40);
        C.due("32 two", x.shoal(0, 0), 2);
        C.due("32 the first by street", x.shoal(0, 1), 44);
        x.sleep(4, 2, 40);
        C.due("32 the first by sort", x.shoal(0, 1), 42);
        // of falling there are 3 more behind the second bell
        x.sleep(4, 1, 40);
        C.due("32 sleepers", x.shoal(0, 0), 3);
        x.put(0, 2, 53);
        C.due("32 sleepers", x.shoal(0, 0), 1);
        C.due("32 sleepers", x.shoal(0, 1), 41);
        // boats don't haul, and nothing changes
        x.boat(0, 0, 4, 0);
        C.due("32 nothing is hauled", x.shoal(0, 0), 1);
        C.due("32 nothing changes", x.state(0), 0);
        C.due("32 nothing changes", x.street(4, 1), 40);
        // every sort of sheet may be, and the last number counts
        for (int sort = 0; sort < 4; sort++) {
            x.sheet(1, sort, 40);
            C.due("32 forty", x.shoal(1, 0), 0);
            x.sheet(1, sort, 1);
            x.put(1, 0, 40);
            C.due("32 one number", x.shoal(1, 0), 4);
            x.put(1, 0, 0);
            C.due("32 none there", x.shoal(1, 0), 36);
        }
        x.sheet(1, 0, 1);
        x.put(1, 0, 296);
        C.due("32 narrowed", x.shoal(1, 0), 4);
        x.put(1, 0, -40);
        C.due("32 below 0", x.shoal(1, 0), 0);
    }

    private static void pieces() {
        DreamNets x = new DreamNets();
        C.due("33 no boats, 0", x.pieces(0, 0), 0);
        C.due("33 no boats, 1", x.pieces(0, 1), -3);
        C.due("33 no sort", x.pieces(5, 0), -1);
        C.due("33 no sort", x.pieces(-1, 0), -1);
        C.due("33 v", x.pieces(0, -1), -1);
        C.due("33 v", x.pieces(0, 1000), -1);
        // holds of school: 3, 5, 8, 2, 1, 0
        int[] held = {3, 5, 8, 2, 1, 0};
        for (int boat = 0; boat < 6; boat++) {
            x.boat(5, 3, 2, 0);
            x.sleep(2, 3, held[boat]);
            C.due("33 haul", x.haul(boat), held[boat]);
        }
        C.due("33 0", x.pieces(3, 0), 0);
        C.due("33 8 is one's", x.pieces(3, 8), 4);
        C.due("33 3 is one's", x.pieces(3, 3), 1);
        C.due("33 4 is two's", x.pieces(3, 4), 17);
        C.due("33 10", x.pieces(3, 10), 12);
        C.due("33 6", x.pieces(3, 6), 18);
        C.due("33 16", x.pieces(3, 16), 7);
        C.due("33 19", x.pieces(3, 19), 31);
        C.due("33 20", x.pieces(3, 20), -3);
        C.due("33 999", x.pieces(3, 999), -3);
        C.due("33 of another sort", x.pieces(2, 3), -3);
        // 3 of teeth by 1 + 2 (set 3) or by boat 3 alone (set 8); 2 by boat 1 (2) or boat 4 (16)
        DreamNets y = new DreamNets();
        int[] teeth = {1, 2, 0, 3, 2};
        for (int boat = 0; boat < 5; boat++) {
            y.boat(5, 2, 2, 0);
            y.sleep(2, 2, teeth[boat]);
            y.haul(boat);
        }
        C.due("33 fewest", y.pieces(2, 3), 8);
        C.due("33 the least", y.pieces(2, 2), 2);
        C.due("33 the least", y.pieces(2, 5), 10);
        C.due("33 three", y.pieces(2, 6), 11);
    }

    private static void gives() {
        DreamNets x = new DreamNets();
        C.due("34 the least of all alike", x.gives(), 0);
        for (int boat = 0; boat < 4; boat++) {
            x.boat(5, 2, 2 * boat, 0);
        }
        x.sleep(4, 2, 10);
        C.due("34 haul", x.haul(2), 10);
        C.due("34 ward 2", x.gives(), 2);
        x.sleep(6, 2, 10);
        x.haul(3);
        C.due("34 as much: the least", x.gives(), 2);
        // 10 by 6 in wards 2 and 3; 7 by 4 is more, 5 by 3 is as much
        x.sleep(0, 2, 7);
        x.haul(0);
        x.sleep(0, 5, 1);
        C.due("34 7 by 4", x.gives(), 0);
        x.sleep(2, 2, 5);
        x.haul(1);
        x.sleep(2, 5, 0);
        C.due("34 7 by 4 still", x.gives(), 0);
        x.sleep(0, 5, 3);
        C.due("34 5 by 3 is as 10 by 6", x.gives(), 1);
        // no sleepers count as one
        x.sleep(6, 5, 0);
        x.sleep(7, 5, 0);
        C.due("34 10 by 1", x.gives(), 3);
        x.sleep(7, 5, 1);
        x.sleep(2, 5, 0);
        x.sleep(3, 5, 0);
        C.due("34 10 by 1 and 5 by 1", x.gives(), 3);
        DreamNets y = new DreamNets();
        for (int boat = 0; boat < 2; boat++) {
            y.boat(5, 2, 2 * boat, 0);
            y.sleep(2 * boat, 2, boat == 0 ? 7 : 5);
            y.haul(boat);
            y.sleep(2 * boat, 5, boat);
            y.sleep(2 * boat + 1, 5, 0);
        }
        C.due("34 7 by 1 of none, 5 by 1", y.gives(), 0);
        y.sleep(0, 5, 1);
        y.sleep(2, 5, 0);
        C.due("34 7 by 1, 5 by 1 of none", y.gives(), 0);
        y.sleep(1, 5, 1);
        C.due("34 7 by 2, 5 by 1 of none", y.gives(), 1);
        C.due("34 quotas don't matter", x.quota(3, 0), 999);
        C.due("34 10 by 1", x.gives(), 3);
    }

    private static void whens() {
        DreamNets x = new DreamNets();
        C.due("35 now", x.when(0, 0, 0), 0);
        // school has its turn at the fourth bell of five
        C.due("35 behind four", x.when(2, 3, 1), 4);
        C.due("35 behind four", x.when(2, 3, 3), 4);
        C.due("35 behind nine", x.when(2, 3, 4), 9);
        C.due("35 nothing changes", x.state(0), 0);
        C.due("35 nothing changes", x.street(2, 3), 0);
        x.sleep(2, 3, 40);
        C.due("35 now", x.when(2, 3, 40), 0);
        C.due("35 behind one", x.when(2, 3, 41), 1);
        C.due("35 behind one", x.when(2, 3, 45), 1);
        C.due("35 behind two", x.when(2, 3, 46), 2);
        x.boat(5, 3, 2, 0);
        C.due("35 nothing is hauled", x.when(2, 3, 46), 2);
        x.set(1, 20);
        x.sleep(5, 5, 0);
        x.sleep(5, 4, 19);
        C.due("35 never", x.when(5, 4, 20), -3);
        // one a turn, at the bells 1, 6, .. 46, of falling: 10 behind 47, none more by 48
        x.sleep(5, 5, 1);
        C.due("35 ten", x.when(5, 1, 10), 47);
        C.due("35 eleven not by then", x.when(5, 1, 11), -3);
        // one a turn, at the bells 2, 7, .. 47, of teeth: behind 48
        C.due("35 ten of teeth", x.when(5, 2, 10), 48);
        C.due("35 no street", x.when(8, 0, 0), -1);
        C.due("35 no street", x.when(-1, 0, 0), -1);
        C.due("35 no sort", x.when(0, 5, 0), -1);
        C.due("35 no sort", x.when(0, -1, 0), -1);
        C.due("35 v", x.when(0, 0, 100), -1);
        C.due("35 v", x.when(0, 0, -1), -1);
    }

    private static void odds() {
        DreamNets x = new DreamNets();
        C.due("36 none", x.odds(0, 0), 0);
        C.due("36 none", x.odds(0, 1), 1);
        C.due("36 one", x.odds(1, 0), 9);
        C.due("36 one", x.odds(1, 1), 10);
        C.due("36 eight", x.odds(8, 0), 99999999);
        C.due("36 eight", x.odds(8, 1), 100000000);
        x.set(0, 99);
        // 1 - 0.99 ^ 8 = (10 ^ 16 - 9227446944279201) / 10 ^ 16
        C.due("36 seldom", x.odds(8, 0), 772553055720799L);
        C.due("36 seldom", x.odds(8, 1), 10000000000000000L);
        C.due("36 once", x.odds(1, 0), 1);
        C.due("36 once", x.odds(1, 1), 100);
        x.set(0, 0);
        C.due("36 never awake", x.odds(3, 0), 1);
        C.due("36 never awake", x.odds(3, 1), 1);
        C.due("36 never awake, none", x.odds(0, 0), 0);
        C.due("36 never awake, none", x.odds(0, 1), 1);
        x.set(0, 50);
        C.due("36 halves", x.odds(2, 0), 3);
        C.due("36 halves", x.odds(2, 1), 4);
        C.due("36 n", x.odds(9, 0), -1);
        C.due("36 n", x.odds(-1, 0), -1);
        C.due("36 part", x.odds(1, 2), -1);
        C.due("36 part", x.odds(1, -1), -1);
    }

    private static void hopes() {
        DreamNets x = new DreamNets();
        C.due("37 none", x.hope(0, 0, 0), -1);
        x.boat(0, 0, 4, 0);
        C.due("37 of nothing", x.hope(0, 5, 0), 0);
        C.due("37 of nothing", x.hope(0, 5, 1), 1);
        x.sleep(4, 1, 64);
        x.set(0, 50);
        // hauls of 16, 12, 9, 6 (27 - 6 = 21), 5: worth 64, 48, 36, 24, 20
        C.due("37 n 0", x.hope(0, 0, 0), 0);
        C.due("37 n 0", x.hope(0, 0, 1), 1);
        C.due("37 n 1", x.hope(0, 1, 0), 32);
        C.due("37 n 1", x.hope(0, 1, 1), 1);
        // 64 * 3 / 4 + 48 / 4
        C.due("37 n 2", x.hope(0, 2, 0), 60);
        C.due("37 n 2", x.hope(0, 2, 1), 1);
        // 64 * 7 / 8 + 48 * 4 / 8 + 36 / 8
        C.due("37 n 3", x.hope(0, 3, 0), 169);
        C.due("37 n 3", x.hope(0, 3, 1), 2);
        // (64 * 31 + 48 * 26 + 36 * 16 + 24 * 6 + 20) / 32 = 3972 / 32
        C.due("37 n 5", x.hope(0, 5, 0), 993);
        C.due("37 n 5", x.hope(0, 5, 1), 8);
        C.due("37 nothing changes", x.street(4, 1), 64);
        C.due("37 nothing is drawn", x.seed(1), 1);
        x.set(0, 0);
        C.due("37 never awake", x.hope(0, 5, 0), 192);
        C.due("37 never awake", x.hope(0, 5, 1), 1);
        x.set(0, 99);
        C.due("37 mostly awake", x.hope(0, 1, 0), 16);
        C.due("37 mostly awake", x.hope(0, 1, 1), 25);
        x.quota(2, 16);
        x.set(0, 50);
        C.due("37 but one may be", x.hope(0, 2, 0), 48);
        x.quota(2, 0);
        C.due("37 it may not", x.hope(0, 2, 0), 0);
        C.due("37 it may not", x.hope(0, 2, 1), 1);
        C.due("37 n", x.hope(0, 6, 0), -1);
        C.due("37 n", x.hope(0, -1, 0), -1);
        C.due("37 part", x.hope(0, 1, 2), -1);
        C.due("37 part", x.hope(0, 1, -1), -1);
        C.due("37 no boat", x.hope(1, 1, 0), -1);
        C.due("37 no boat", x.hope(-1, 1, 0), -1);
    }
}
