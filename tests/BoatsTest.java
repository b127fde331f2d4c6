/** Promises 11 to 21: boats and what each does where it is. */
public final class BoatsTest {
    private static final Check C = new Check("BoatsTest");

    public static void main(String[] args) {
        boatsCome();
        boatsAreTold();
        minds();
        movesAndMeshes();
        takes();
        tears();
        haulsByMesh();
        haulsThatMayNot();
        nightmaresTear();
        frees();
        lands();
        boatsByThemselves();
        C.end();
    }

    private static void boatsCome() {
        DreamNets x = new DreamNets();
        C.due("11 no kind", x.boat(-1, 0, 0, 0), -1);
        C.due("11 no kind", x.boat(6, 0, 0, 0), -1);
        C.due("11 m", x.boat(0, -1, 0, 0), -1);
        C.due("11 m", x.boat(0, 10, 0, 0), -1);
        C.due("11 no street", x.boat(0, 0, -1, 0), -1);
        C.due("11 no street", x.boat(0, 0, 8, 0), -1);
        C.due("11 mesh", x.boat(0, 0, 0, -1), -1);
        C.due("11 mesh", x.boat(0, 0, 0, 10), -1);
        for (int i = 0; i < 6; i++) {
            C.due("11 many", x.many(0), i);
            C.due("11 boat", x.boat(i, 9 - i, i + 2, 9), i);
        }
        C.due("11 full", x.boat(0, 0, 0, 0), -2);
        C.due("11 bad before full", x.boat(6, 0, 0, 0), -1);
        C.due("11 bad before full", x.boat(0, 0, 0, 10), -1);
        C.due("50 many", x.many(0), 6);
    }

    private static void boatsAreTold() {
        DreamNets x = new DreamNets();
        C.due("12 none", x.of(0, 0), -1);
        x.boat(5, 7, 6, 9);
        int[] due = {5, 7, 6, 9, 0, 0, 0, 0, 0, 0, 0};
        for (int what = 0; what < 11; what++) {
            C.due("12 of " + what, x.of(0, what), due[what]);
        }
        C.due("12 no what", x.of(0, 11), -1);
        C.due("12 no what", x.of(0, -1), -1);
        C.due("12 no boat", x.of(1, 0), -1);
        C.due("12 no boat", x.of(-1, 0), -1);
        C.due("12 no boat", x.of(Integer.MIN_VALUE, 0), -1);
        // a quarter each of 4, 8, 12, 16, 20 (the poacher all of falling, as 1 is what 6 leaves by 5)
        x.mind(0, 5, 6);
        x.mesh(0, 0);
        for (int sort = 0; sort < 5; sort++) {
            x.sleep(6, sort, 4 * sort + 4);
        }
        C.due("19 haul", x.haul(0), 1 + 8 + 3 + 4 + 5);
        int[] held = {1, 8, 3, 4, 5};
        for (int sort = 0; sort < 5; sort++) {
            C.due("12 holds", x.of(0, 5 + sort), held[sort]);
        }
        C.due("12 worth", x.of(0, 10), 9 + 32 + 6 + 24 + 60);
        x.price(1, 10);
        C.due("12 worth by prices now", x.of(0, 10), 9 + 80 + 6 + 24 + 60);
    }

    private static void minds() {
        DreamNets x = new DreamNets();
        C.due("13 none", x.mind(0, 0, 0), -1);
        x.boat(2, 3, 4, 5);
        x.sleep(4, 4, 40);
        C.due("13 haul", x.haul(0), 13);
        C.due("13 mind", x.mind(0, 4, 9), 2);
        C.due("13 kind", x.of(0, 0), 4);
        C.due("13 m", x.of(0, 1), 9);
        C.due("13 at", x.of(0, 2), 4);
        C.due("13 mesh", x.of(0, 3), 5);
        C.due("13 torn stays", x.of(0, 4), 2);
        C.due("13 held stays", x.of(0, 9), 13);
        C.due("13 the same kind", x.mind(0, 4, 0), 4);
        C.due("13 m", x.of(0, 1), 0);
        C.due("13 no kind", x.mind(0, 6, 0), -1);
        C.due("13 no kind", x.mind(0, -1, 0), -1);
        C.due("13 no m", x.mind(0, 0, 10), -1);
        C.due("13 no m", x.mind(0, 0, -1), -1);
        C.due("13 no boat", x.mind(1, 0, 0), -1);
        C.due("13 no boat", x.mind(-1, 0, 0), -1);
        C.due("13 kind stays", x.of(0, 0), 4);
    }

    private static void movesAndMeshes() {
        DreamNets x = new DreamNets();
        C.due("14 none", x.move(0, 0), -1);
        C.due("15 none", x.mesh(0, 0), -1);
        C.due("16 none", x.patch(0), -1);
        x.boat(0, 0, 3, 5);
        C.due("14 move", x.move(0, 7), 3);
        C.due("14 move", x.move(0, 0), 7);
        C.due("14 far", x.move(0, 8), -1);
        C.due("14 far", x.move(0, -1), -1);
        C.due("14 no boat", x.move(1, 1), -1);
        C.due("14 at", x.of(0, 2), 0);
        C.due("15 mesh", x.mesh(0, 9), 5);
        C.due("15 mesh", x.mesh(0, 0), 9);
        C.due("15 far", x.mesh(0, 10), -1);
        C.due("15 far", x.mesh(0, -1), -1);
        C.due("15 no boat", x.mesh(1, 1), -1);
        C.due("15 mesh", x.of(0, 3), 0);
        x.sleep(0, 4, 50);
        x.haul(0);
        C.due("16 torn", x.of(0, 4), 1);
        C.due("16 patch", x.patch(0), 1);
        C.due("16 patched", x.of(0, 4), 0);
        C.due("16 patch", x.patch(0), 0);
        C.due("16 no boat", x.patch(1), -1);
        C.due("16 no boat", x.patch(-1), -1);
    }

    private static void takes() {
        DreamNets x = new DreamNets();
        C.due("17 none", x.takes(0, 0), -1);
        x.boat(0, 7, 2, 9);
        // flying 99, falling 3, teeth 11, school 0, nightmare 50
        int[] stock = {99, 3, 11, 0, 50};
        for (int sort = 0; sort < 5; sort++) {
            x.sleep(2, sort, stock[sort]);
        }
        int[][] due = {
            {24, 0, 2, 0, 12}, // a quarter
            {48, 0, 4, 0, 24}, // twice that
            {31, 3, 9, 0, 19}, // a quarter and 7, never more than there is
            {48, 0, 0, 0, 24}, // no teeth
            {62, 3, 11, 0, 38}, // twice (a quarter and 7)
            {24, 0, 11, 0, 12}, // 7 leaves 2 by 5: all teeth
        };
        for (int kind = 0; kind < 6; kind++) {
            x.mind(0, kind, 7);
            for (int sort = 0; sort < 5; sort++) {
                C.due("17 takes of kind " + kind + " of " + sort, x.takes(0, sort), due[kind][sort]);
            }
        }
        // mesh, torn and quota don't matter
        x.quota(1, 0);
        C.due("17 without quota", x.takes(0, 4), 12);
        x.mind(0, 5, 4);
        C.due("17 all nightmares", x.takes(0, 4), 50);
        C.due("17 of teeth as a boat", x.takes(0, 2), 2);
        x.move(0, 3);
        C.due("17 elsewhere", x.takes(0, 0), 0);
        C.due("17 no sort", x.takes(0, 5), -1);
        C.due("17 no sort", x.takes(0, -1), -1);
        C.due("17 no boat", x.takes(1, 0), -1);
        C.due("17 no boat", x.takes(-1, 0), -1);
        C.due("17 nothing was taken", x.street(2, 7), 163);
    }

    private static void tears() {
        DreamNets x = new DreamNets();
        C.due("18 none", x.tears(0), -1);
        x.boat(0, 9, 2, 9);
        int[] wide = {1, 0, 2, 0, 11, 0};
        int[] close = {1, 0, 2, 1, 11, 0};
        for (int kind = 0; kind < 6; kind++) {
            x.mind(0, kind, 9);
            x.mesh(0, 3);
            C.due("18 tears of " + kind, x.tears(0), wide[kind]);
            x.mesh(0, 2);
            C.due("18 tears of " + kind, x.tears(0), close[kind]);
        }
        x.mind(0, 4, 0);
        C.due("18 a dredger of 0", x.tears(0), 2);
        C.due("18 no boat", x.tears(1), -1);
        C.due("18 no boat", x.tears(-1), -1);
    }

    private static void haulsByMesh() {
        // sizes 2, 3, 1, 5, 8; a quarter of 40 each is 10
        int[] due = {50, 50, 40, 30, 20, 20, 10, 10, 10, 0};
        for (int mesh = 0; mesh < 10; mesh++) {
            DreamNets x = new DreamNets();
            x.boat(0, 0, 7, mesh);
            for (int sort = 0; sort < 5; sort++) {
                x.sleep(7, sort, 40);
            }
            C.due("19 haul by mesh " + mesh, x.haul(0), due[mesh]);
            C.due("19 lacks", x.street(7, 6), due[mesh]);
            C.due("19 taken", x.ward(3, 1), due[mesh]);
            C.due("19 held", x.state(3), due[mesh]);
            C.due("19 left", x.street(7, 7), 200 - due[mesh]);
            C.due("19 teeth", x.of(0, 7), mesh <= 1 ? 10 : 0);
            C.due("19 flying", x.of(0, 5), mesh <= 2 ? 10 : 0);
            C.due("19 torn", x.of(0, 4), mesh <= 8 ? 1 : 0);
            C.due("19 no bell goes", x.state(0), 0);
        }
        DreamNets x = new DreamNets();
        C.due("19 no boat", x.haul(0), -1);
        C.due("19 no boat", x.haul(-1), -1);
        x.boat(0, 0, 0, 0);
        C.due("19 nothing there", x.haul(0), 0);
        C.due("19 no boat", x.haul(1), -1);
    }

    private static void haulsThatMayNot() {
        DreamNets x = new DreamNets();
        x.boat(0, 0, 2, 0);
        x.sleep(2, 1, 40);
        x.quota(1, 0);
        C.due("19 no quota", x.haul(0), -4);
        C.due("19 nothing came", x.street(2, 1), 40);
        C.due("27 none may", x.state(5), 0);
        x.quota(1, 1);
        C.due("27 it may", x.state(5), 1);
        C.due("19 less than quota was taken", x.haul(0), 10);
        C.due("19 now more", x.haul(0), -4);
        x.quota(1, 10);
        C.due("19 as much", x.haul(0), -4);
        x.quota(1, 11);
        C.due("19 less again", x.haul(0), 7);
        x.quota(1, 0);
        x.move(0, 4);
        C.due("19 another ward", x.haul(0), 0);
        x.move(0, 3);
        C.due("19 the same ward", x.haul(0), -4);
        C.due("50 full wards", x.many(3), 1);
    }

    private static void nightmaresTear() {
        DreamNets x = new DreamNets();
        x.boat(4, 6, 0, 0);
        x.sleep(0, 4, 1);
        C.due("19 one nightmare", x.haul(0), 1);
        C.due("19 torn by 8", x.of(0, 4), 8);
        C.due("19 none left, none torn", x.haul(0), 0);
        C.due("19 torn still 8", x.of(0, 4), 8);
        C.due("50 not torn yet", x.many(1), 0);
        x.sleep(0, 4, 9);
        C.due("19 at 8 it may", x.haul(0), 9);
        C.due("19 torn by 9 at most", x.of(0, 4), 9);
        C.due("50 torn", x.many(1), 1);
        C.due("19 at 9 it may not", x.haul(0), -4);
        C.due("27 it may not", x.state(5), 0);
        C.due("16 patch", x.patch(0), 9);
        C.due("19 it may again", x.haul(0), 0);
        // a quarter of 3 nightmares is none
        DreamNets y = new DreamNets();
        y.boat(0, 0, 0, 0);
        y.sleep(0, 4, 3);
        C.due("19 none of three", y.haul(0), 0);
        C.due("19 not torn", y.of(0, 4), 0);
        y.sleep(0, 4, 4);
        C.due("19 one of four", y.haul(0), 1);
        C.due("19 torn", y.of(0, 4), 1);
        // a mesh above 8 leaves nightmares
        y.sleep(0, 4, 80);
        y.mesh(0, 9);
        C.due("19 a wide mesh", y.haul(0), 0);
        C.due("19 not torn", y.of(0, 4), 1);
    }

    private static void frees() {
        DreamNets x = new DreamNets();
        C.due("20 none", x.free(0, 0), -1);
        x.boat(1, 0, 6, 0);
        x.sleep(6, 0, 80);
        x.sleep(6, 1, 80);
        C.due("20 haul", x.haul(0), 80);
        C.due("20 no sort", x.free(0, 5), -1);
        C.due("20 no sort", x.free(0, -1), -1);
        C.due("20 no boat", x.free(1, 0), -1);
        C.due("20 free", x.free(0, 0), 40);
        C.due("20 back", x.street(6, 0), 80);
        C.due("20 holds none", x.of(0, 5), 0);
        C.due("20 of another sort still", x.of(0, 6), 40);
        C.due("20 lacks stay", x.street(6, 6), 80);
        C.due("20 taken stay", x.ward(3, 1), 80);
        C.due("20 nothing more", x.free(0, 0), 0);
        x.move(0, 1);
        x.sleep(1, 1, 70);
        C.due("20 elsewhere", x.free(0, 1), 40);
        C.due("20 99 at most", x.street(1, 1), 99);
        C.due("20 not there", x.street(6, 1), 40);
    }

    private static void lands() {
        DreamNets x = new DreamNets();
        C.due("21 none", x.land(0), -1);
        x.boat(0, 0, 6, 0);
        x.boat(0, 0, 6, 0);
        for (int sort = 0; sort < 5; sort++) {
            x.sleep(6, sort, 4);
        }
        x.haul(0);
        x.sleep(6, 0, 8);
        x.haul(1);
        C.due("21 land", x.land(0), 9 + 4 + 2 + 6 + 12);
        C.due("21 coins", x.state(1), 33);
        C.due("21 holds none", x.of(0, 10), 0);
        C.due("21 the other holds", x.state(3), 2);
        C.due("21 nothing more", x.land(0), 0);
        x.price(0, 30);
        C.due("21 land by prices now", x.land(1), 60);
        C.due("21 coins", x.state(1), 93);
        C.due("21 no boat", x.land(2), -1);
        C.due("21 no boat", x.land(-1), -1);
    }

    private static void boatsByThemselves() {
        DreamNets x = new DreamNets();
        x.boat(5, 0, 0, 0);
        x.boat(5, 1, 2, 0);
        x.boat(5, 2, 4, 0);
        for (int boat = 0; boat < 3; boat++) {
            x.sleep(2 * boat, boat, 10 * boat + 3);
            C.due("19 haul", x.haul(boat), 10 * boat + 3);
        }
        C.due("12 holds", x.of(0, 5), 3);
        C.due("12 holds", x.of(1, 6), 13);
        C.due("12 holds", x.of(2, 7), 23);
        C.due("12 worth", x.of(1, 10), 52);
        C.due("20 free", x.free(1, 1), 13);
        C.due("20 there", x.street(2, 1), 13);
        C.due("12 the others hold theirs", x.of(0, 5) + x.of(2, 7), 26);
        C.due("21 land", x.land(2), 46);
        C.due("12 the other holds its own", x.of(0, 10), 27);
        C.due("19 haul", x.haul(1), 13);
        C.due("9 it lacks both", x.street(2, 6), 26);
        C.due("8 taken both", x.ward(1, 1), 26);
        C.due("13 mind", x.mind(1, 0, 4), 5);
        C.due("12 the other is of its kind", x.of(2, 0), 5);
    }
}
