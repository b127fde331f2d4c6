/** Promises 1 to 10: a new object, the tape, laws, prices, quotas, wards, streets. */
public final class HarbourTest {
    private static final Check C = new Check("HarbourTest");

    public static void main(String[] args) {
        newObject();
        feed();
        harbourTells();
        harbourIsAllByItAlone();
        nothingIsLeftOver();
        faults();
        faultsChangeNothing();
        laws();
        prices();
        quotasAndWards();
        streets();
        C.end();
    }

    private static void newObject() {
        DreamNets x = new DreamNets();
        C.due("1 many(0)", x.many(0), 0);
        C.due("1 again()", x.again(), -3);
        C.due("1 lawOf(0)", x.lawOf(0), 10);
        C.due("1 lawOf(1)", x.lawOf(1), 8);
        C.due("1 lawOf(2)", x.lawOf(2), 4);
        int[] prices = {9, 4, 2, 6, 12};
        for (int sort = 0; sort < 5; sort++) {
            C.due("1 price " + sort, x.price(sort, 1), prices[sort]);
        }
        for (int street = 0; street < 8; street++) {
            for (int sort = 0; sort < 5; sort++) {
                C.due("1 street " + street + " " + sort, x.street(street, sort), 0);
            }
            C.due("1 sleepers " + street, x.street(street, 5), 3);
            C.due("1 lacks " + street, x.street(street, 6), 0);
            C.due("1 all " + street, x.street(street, 7), 0);
        }
        for (int ward = 0; ward < 4; ward++) {
            C.due("1 quota " + ward, x.ward(ward, 0), 999);
            C.due("1 taken " + ward, x.ward(ward, 1), 0);
            C.due("1 sleepers of " + ward, x.ward(ward, 2), 6);
        }
        int[] states = {0, 0, 0, 0, 255, 0};
        for (int what = 0; what < 6; what++) {
            C.due("1 state " + what, x.state(what), states[what]);
        }
        int[] many = {0, 0, 24, 0, 0, 0, 0};
        for (int what = 0; what < 7; what++) {
            C.due("1 many " + what, x.many(what), many[what]);
        }
        C.due("1 row", x.row(0, 0), -9);
        C.due("1 trace", x.trace(0), -3);
        for (int i = 0; i < 4; i++) {
            C.due("1 sheet " + i, x.item(i, 0, 0), -11);
            C.due("1 shelf " + i, x.taken(i, 0), -11);
        }
        C.due("1 seed", x.seed(5), 1);
    }

    private static void feed() {
        DreamNets x = new DreamNets();
        C.due("2 feed n 0", x.feed(0, 0), -1);
        C.due("2 feed n 9", x.feed(0, 9), -1);
        C.due("2 feed n -1", x.feed(0, -1), -1);
        C.due("2 feed n least", x.feed(0, Integer.MIN_VALUE), -1);
        C.due("2 feed n most", x.feed(0, Integer.MAX_VALUE), -1);
        C.due("2 many(5)", x.many(5), 0);
        for (int i = 1; i <= 24; i++) {
            C.due("2 feed " + i, x.feed(0x2020202020202020L, 8), 8 * i);
        }
        C.due("2 feed 193", x.feed(0x20, 1), 193);
        C.due("2 feed 8 is too many", x.feed(0, 8), -2);
        C.due("2 feed 9 is no such n first", x.feed(0, 9), -1);
        C.due("2 many(5) stays", x.many(5), 193);
        C.due("2 feed 7", x.feed(0x20202020202020L, 7), 200);
        C.due("2 feed 1 is too many", x.feed(0, 1), -2);
        C.due("2 many(5) full", x.many(5), 200);
        C.due("2 all were blanks", x.harbour(), 0);
        C.due("2 used up", x.many(5), 0);
        C.due("2 fed anew", x.feed(0, 3), 3);
        // the lowest first: "wake 5;" with a byte above that isn't fed
        DreamNets y = new DreamNets();
        long wake = 'w' | 'a' << 8 | 'k' << 16 | (long) 'e' << 24 | (long) ' ' << 32 | (long) '5' << 40
                | (long) ';' << 48 | (long) '!' << 56;
        C.due("2 feed wake", y.feed(wake, 7), 7);
        C.due("2 harbour wake", y.harbour(), 0);
        C.due("2 wake told", y.lawOf(0), 5);
        C.due("2 feed the eighth too", y.feed(wake, 8), 8);
        C.due("2 its fault", y.harbour(), -107);
        C.due("2 a byte of 255", y.feed(-1, 1), 1);
        C.due("2 its fault", y.harbour(), -100);
    }

    private static void harbourTells() {
        DreamNets x = new DreamNets();
        C.due("3 kinds", Check.tell(x, "boat 1 at 0 mesh 9;seiner 2 at 1 mesh 8;drifter 3 at 2 mesh 7;"
                + "tug 4 at 3 mesh 6;dredger 9 at 7 mesh 0;poacher 0 at 5 mesh 4;"), 6);
        int[][] due = {{0, 1, 0, 9}, {1, 2, 1, 8}, {2, 3, 2, 7}, {3, 4, 3, 6}, {4, 9, 7, 0}, {5, 0, 5, 4}};
        for (int boat = 0; boat < 6; boat++) {
            for (int what = 0; what < 4; what++) {
                C.due("3 of " + boat + " " + what, x.of(boat, what), due[boat][what]);
            }
            C.due("3 torn " + boat, x.of(boat, 4), 0);
        }
        C.due("3 stock", Check.tell(x, "street 0 flying 1;street 1 falling 22;street 2 teeth 99;"
                + "street 3 school 0;street 7 nightmare 4;street 7 sleepers 9;street 0 sleepers 0;"), 0);
        C.due("3 flying", x.street(0, 0), 1);
        C.due("3 falling", x.street(1, 1), 22);
        C.due("3 teeth", x.street(2, 2), 99);
        C.due("3 school", x.street(3, 3), 0);
        C.due("3 nightmare", x.street(7, 4), 4);
        C.due("3 sleepers 7", x.street(7, 5), 9);
        C.due("3 sleepers 0", x.street(0, 5), 0);
        C.due("3 sleepers 1", x.street(1, 5), 3);
        C.due("3 stock in all", x.state(2), 126);
        C.due("3 prices", Check.tell(x, "price flying 30;price falling 1;price teeth 3;price school 7;"
                + "price nightmare 011;quota 0 0;quota 3 999;quota 2 07;wake 99;"), 0);
        int[] prices = {30, 1, 3, 7, 11};
        for (int sort = 0; sort < 5; sort++) {
            C.due("3 price " + sort, x.price(sort, 1), prices[sort]);
        }
        C.due("3 quota 0", x.ward(0, 0), 0);
        C.due("3 quota 1", x.ward(1, 0), 999);
        C.due("3 quota 2", x.ward(2, 0), 7);
        C.due("3 wake", x.lawOf(0), 99);
        C.due("3 the latest stands", Check.tell(x, "wake 3;wake 4;"), 0);
        C.due("3 wake", x.lawOf(0), 4);
        C.due("3 blanks as one likes", Check.tell(x, "   boat   3 at    4   mesh 5  ;   wake 000 ;  "), 1);
        C.due("3 at", x.of(0, 2), 4);
        C.due("3 wake", x.lawOf(0), 0);
        C.due("3 digits and letters end one another", Check.tell(x, "boat3at4mesh5;wake7;street2teeth6;"), 1);
        C.due("3 at", x.of(0, 2), 4);
        C.due("3 teeth", x.street(2, 2), 6);
        C.due("3 two hundred bytes", Check.tell(x, "wake 1;" + " ".repeat(186) + "wake 2;"), 0);
        C.due("3 wake", x.lawOf(0), 2);
    }

    private static void harbourIsAllByItAlone() {
        DreamNets x = new DreamNets();
        x.set(0, 50);
        x.set(1, 2);
        x.set(2, 3);
        x.price(1, 20);
        x.quota(1, 5);
        x.sleep(2, 0, 40);
        x.sleep(2, 5, 1);
        x.boat(4, 0, 2, 0);
        x.sleep(2, 4, 80);
        x.seed(77);
        C.due("3 a haul", x.haul(0), 60);
        x.land(0);
        x.haul(0);
        x.bells(3);
        x.sheet(0, 1, 2);
        x.shelf(0, 0, 0);
        x.shelf(1, 1, 0);
        x.act(0, 0, 1);
        C.due("3 prove", x.prove(1, 4), 4);
        C.due("3 harbour", Check.tell(x, "boat 1 at 6 mesh 2;"), 1);
        C.due("3 no rows", x.many(4), 0);
        C.due("3 no row", x.row(0, 0), -9);
        C.due("3 judge", x.judge(0), 0);
        C.due("3 wake", x.lawOf(0), 10);
        C.due("3 breed", x.lawOf(1), 8);
        C.due("3 drift", x.lawOf(2), 4);
        C.due("3 price", x.price(1, 4), 4);
        C.due("3 quota", x.ward(1, 0), 999);
        C.due("3 taken", x.ward(1, 1), 0);
        C.due("3 sleepers", x.street(2, 5), 3);
        C.due("3 lacks", x.street(2, 6), 0);
        C.due("3 stock", x.state(2), 0);
        C.due("3 bell", x.state(0), 0);
        C.due("3 coins", x.state(1), 0);
        C.due("3 held", x.state(3), 0);
        C.due("3 torn", x.of(0, 4), 0);
        C.due("3 kind", x.of(0, 0), 0);
        C.due("3 z stays", x.seed(1), 77);
        C.due("3 sheets stay", x.item(0, 1, 1), 0);
        C.due("3 shelves hold by number", x.taken(0, 0), 0);
        C.due("3 shelves hold rows", x.taken(1, 11), 2);
        C.due("3 the trace stays", x.many(6), 3);
    }

    /** What was tried, told or held once doesn't come up again. */
    private static void nothingIsLeftOver() {
        DreamNets x = new DreamNets();
        x.seed(5);
        C.due("3 harbour", x.harbour(), 0);
        C.due("3 z stays", x.seed(5), 5);
        for (int boat = 0; boat < 3; boat++) {
            x.boat(4, 9, boat, 0);
            for (int sort = 0; sort < 5; sort++) {
                x.sleep(boat, sort, 90);
            }
            x.haul(boat);
        }
        x.lasts();
        C.due("3 torn", x.many(1), 3);
        C.due("3 harbour", Check.tell(x, "boat 1 at 1 mesh 1;"), 1);
        C.due("3 none torn", x.many(1), 0);
        C.due("3 nothing held", x.state(3), 0);
        C.due("11 a boat", x.boat(0, 0, 0, 0), 1);
        for (int boat = 0; boat < 2; boat++) {
            C.due("3 of it, torn", x.of(boat, 4), 0);
            for (int what = 5; what < 11; what++) {
                C.due("3 of it, held", x.of(boat, what), 0);
            }
        }
        C.due("3 nothing held", x.state(3), 0);
        // bytes of an earlier tape
        C.due("3 a fault", Check.tell(x, "wake 555;"), -105);
        C.due("3 more must come", Check.tell(x, "wake 5"), -106);
        C.due("3 a fault", Check.tell(x, "boatsss"), -100);
        C.due("3 more must come", Check.tell(x, "boat"), -104);
        C.due("3 a fault", Check.tell(x, "wake 5;;"), -107);
        C.due("3 more must come", Check.tell(x, "wake 5"), -106);
        C.due("3 none", Check.tell(x, "wake 5;"), 0);
    }

    private static void fault(String text, int place) {
        DreamNets x = new DreamNets();
        C.due("3 fault of \"" + text + "\"", Check.tell(x, text), -100 - place);
    }

    private static void faults() {
        // more must come
        fault("boat", 4);
        fault("boat 3 at 1 mesh 2", 18);
        fault("boat 3 at 1 mesh 2   ", 21);
        fault("street", 6);
        fault("price teeth 4", 13);
        fault("wake 5", 6);
        // what can't stand there
        fault(";", 0);
        fault("  ;", 2);
        fault("5 boat", 0);
        fault("boat at 3", 5);
        fault("boat 3 on 1 mesh 2;", 7);
        fault("boat 3 at 1 net 2;", 12);
        fault("boat 3 at 1 mesh 2,", 18);
        fault("boat 3 at 1 mesh 2 boat", 19);
        fault("boat 3 4 at 1 mesh 2;", 7);
        fault("street flying 3;", 7);
        fault("street 3 4;", 9);
        fault("street 3 wake 4;", 9);
        fault("street 3 at 4;", 9);
        fault("street 3 ;", 9);
        fault("street 3 flying ;", 16);
        fault("price 3 4;", 6);
        fault("price sleepers 4;", 6);
        fault("price ", 6);
        fault("quota teeth 4;", 6);
        fault("wake ten;", 5);
        fault("wake 1;;", 7);
        fault("wake 1;x", 7);
        fault("wake -1;", 5);
        fault("wake 1\t;", 6);
        fault("\n", 0);
        fault("flying 3;", 0);
        fault("at 3;", 0);
        fault("sleepers 3;", 0);
        // names are as long as they go, and of small letters
        fault("boats 3 at 1 mesh 2;", 0);
        fault("boa", 0);
        fault("xoat 1 at 1 mesh 1;", 0);
        fault("boatz 1 at 1 mesh 1;", 0);
        fault("zboat 1 at 1 mesh 1;", 0);
        fault("boatatmesh", 0);
        fault("Boat 3 at 1 mesh 2;", 0);
        fault("boaT 3 at 1 mesh 2;", 0);
        fault("boat 3 att 1 mesh 2;", 7);
        fault("street 3 flyings 4;", 9);
        fault("street 3 fly 4;", 9);
        fault("street 3 sleeper 4;", 9);
        fault("b\u00e9", 0);
        fault("boat\u00e9 3", 4);
        // numbers out of range, and of more digits
        fault("boat 10 at 1 mesh 2;", 5);
        fault("boat 9 at 8 mesh 2;", 10);
        fault("boat 9 at 7 mesh 10;", 17);
        fault("boat 0000 at 1 mesh 2;", 5);
        fault("street 8 flying 1;", 7);
        fault("street 7 flying 100;", 16);
        fault("street 7 flying 0099;", 16);
        fault("street 7 nightmare 123456789012345678901234567890;", 19);
        fault("street 7 sleepers 10;", 18);
        fault("price teeth 0;", 12);
        fault("price teeth 31;", 12);
        fault("quota 4 1;", 6);
        fault("quota 3 1000;", 8);
        fault("wake 100;", 5);
        fault("wake 0001", 5);
        fault("quota 0000000000000000000000000000000003 1;", 6);
        // 2 to the 32nd and more must not come round into range
        fault("wake 4294967297;", 5);
        // the first fault counts
        fault("wake 100; boat 11", 5);
        // the seventh boat: its name
        String six = "boat 1 at 1 mesh 1;".repeat(6);
        fault(six + "tug 1 at 1 mesh 1;", 114);
        fault(six + " wake 1; tug", 123);
        fault(six + "tugs", 114);
        DreamNets x = new DreamNets();
        C.due("3 six boats may be", Check.tell(x, six), 6);
    }

    private static void faultsChangeNothing() {
        DreamNets x = new DreamNets();
        x.boat(1, 2, 3, 4);
        x.set(0, 33);
        x.prove(0, 2);
        C.due("3 a fault", Check.tell(x, "wake 5;boat 1 at 1 mesh 1;price teeth 9;wake 100;"), -145);
        C.due("3 the tape is used up", x.many(5), 0);
        C.due("3 boats stay", x.many(0), 1);
        C.due("3 kind stays", x.of(0, 0), 1);
        C.due("3 wake stays", x.lawOf(0), 33);
        C.due("3 price stays", x.price(2, 2), 2);
        C.due("3 rows stay", x.many(4), 2);
    }

    private static void laws() {
        DreamNets x = new DreamNets();
        int[] first = {10, 8, 4};
        int[] least = {0, 1, 1};
        int[] most = {99, 20, 20};
        for (int law = 0; law < 3; law++) {
            C.due("4 set least", x.set(law, least[law]), first[law]);
            C.due("5 lawOf", x.lawOf(law), least[law]);
            C.due("4 below", x.set(law, least[law] - 1), -1);
            C.due("4 set most", x.set(law, most[law]), least[law]);
            C.due("4 above", x.set(law, most[law] + 1), -1);
            C.due("4 far", x.set(law, Integer.MIN_VALUE), -1);
            C.due("5 lawOf", x.lawOf(law), most[law]);
        }
        C.due("4 no law", x.set(3, 5), -1);
        C.due("4 no law", x.set(-1, 5), -1);
        C.due("4 no law", x.set(Integer.MAX_VALUE, 5), -1);
        C.due("5 no law", x.lawOf(3), -1);
        C.due("5 no law", x.lawOf(-1), -1);
    }

    private static void prices() {
        DreamNets x = new DreamNets();
        int[] first = {9, 4, 2, 6, 12};
        for (int sort = 0; sort < 5; sort++) {
            C.due("6 price", x.price(sort, 30), first[sort]);
            C.due("6 above", x.price(sort, 31), -1);
            C.due("6 below", x.price(sort, 0), -1);
            C.due("6 least", x.price(sort, 1), 30);
            C.due("6 was", x.price(sort, 7), 1);
        }
        C.due("6 no sort", x.price(5, 7), -1);
        C.due("6 no sort", x.price(-1, 7), -1);
    }

    private static void quotasAndWards() {
        DreamNets x = new DreamNets();
        for (int ward = 0; ward < 4; ward++) {
            C.due("7 quota", x.quota(ward, 0), 999);
            C.due("7 above", x.quota(ward, 1000), -1);
            C.due("7 below", x.quota(ward, -1), -1);
            C.due("8 quota", x.ward(ward, 0), 0);
            C.due("7 quota", x.quota(ward, 999), 0);
            x.sleep(2 * ward, 5, ward);
            x.sleep(2 * ward + 1, 5, 9);
            C.due("8 sleepers", x.ward(ward, 2), ward + 9);
        }
        C.due("7 no ward", x.quota(4, 5), -1);
        C.due("7 no ward", x.quota(-1, 5), -1);
        C.due("8 no ward", x.ward(4, 0), -1);
        C.due("8 no ward", x.ward(-1, 0), -1);
        C.due("8 no what", x.ward(0, 3), -1);
        C.due("8 no what", x.ward(0, -1), -1);
        // taken: by wards, of both streets
        x.boat(0, 0, 5, 0);
        x.sleep(5, 1, 40);
        x.sleep(4, 1, 20);
        C.due("8 a haul", x.haul(0), 10);
        x.move(0, 4);
        C.due("8 a haul", x.haul(0), 5);
        C.due("8 taken", x.ward(2, 1), 15);
        C.due("8 taken", x.ward(1, 1), 0);
        C.due("8 taken", x.ward(3, 1), 0);
        C.due("9 lacks", x.street(5, 6), 10);
        C.due("9 lacks", x.street(4, 6), 5);
    }

    private static void streets() {
        DreamNets x = new DreamNets();
        for (int street = 0; street < 8; street++) {
            for (int sort = 0; sort < 5; sort++) {
                C.due("10 stock", x.sleep(street, sort, 10 * street + sort), 0);
            }
            C.due("10 sleepers", x.sleep(street, 5, street), 3);
        }
        for (int street = 0; street < 8; street++) {
            for (int sort = 0; sort < 5; sort++) {
                C.due("9 stock", x.street(street, sort), 10 * street + sort);
            }
            C.due("9 sleepers", x.street(street, 5), street);
            C.due("9 lacks", x.street(street, 6), 0);
            C.due("9 all", x.street(street, 7), 50 * street + 10);
        }
        C.due("10 most stock", x.sleep(7, 4, 99), 74);
        C.due("10 above", x.sleep(7, 4, 100), -1);
        C.due("10 below", x.sleep(7, 4, -1), -1);
        C.due("10 none", x.sleep(7, 4, 0), 99);
        C.due("10 most sleepers", x.sleep(7, 5, 9), 7);
        C.due("10 above", x.sleep(7, 5, 10), -1);
        C.due("10 below", x.sleep(7, 5, -1), -1);
        C.due("10 none", x.sleep(7, 5, 0), 9);
        C.due("10 no what", x.sleep(0, 6, 0), -1);
        C.due("10 no what", x.sleep(0, -1, 0), -1);
        C.due("10 no street", x.sleep(8, 0, 0), -1);
        C.due("10 no street", x.sleep(-1, 0, 0), -1);
        C.due("9 no street", x.street(8, 0), -1);
        C.due("9 no street", x.street(-1, 0), -1);
        C.due("9 no what", x.street(0, 8), -1);
        C.due("9 no what", x.street(0, -1), -1);
        C.due("9 no what", x.street(0, Integer.MAX_VALUE), -1);
    }
}
