/** Promises 38 to 52: rows, sheets, shelves, acts, counts, what is kept. */
public final class ThingsTest {
    private static final Check C = new Check("ThingsTest");

    public static void main(String[] args) {
        rows();
        judges();
        minds();
        sheets();
        items();
        shelves();
        shelvesHoldRows();
        shelvesHoldByNumber();
        acts();
        actsOfEachKind();
        partings();
        noActs();
        many();
        keeps();
        C.end();
    }

    private static void rows() {
        DreamNets x = new DreamNets();
        C.due("38 no street", x.prove(8, 1), -1);
        C.due("38 no street", x.prove(-1, 1), -1);
        C.due("38 n", x.prove(0, 0), -1);
        C.due("38 n", x.prove(0, 11), -1);
        C.due("38 no rows yet", x.many(4), 0);
        // nightmares 40, 45, 50, ..; sleepers 3 come by turns, flying drifts as the streets are all alike
        for (int street = 0; street < 8; street++) {
            x.sleep(street, 0, 40);
            x.sleep(street, 4, 40);
        }
        C.due("38 prove", x.prove(7, 3), 3);
        // flying 40 + 5 + 3 = 48; + 6 = 54; + 6 = 60. falling 3; 0 of it then. teeth 3 behind the third
        int[][] due = {{48 + 45, 48, 0}, {54 + 50 + 3, 54, 0}, {60 + 56 + 3 + 3, 60, 0}};
        for (int i = 0; i < 3; i++) {
            for (int what = 0; what < 3; what++) {
                C.due("39 row " + i + " " + what, x.row(i, what), due[i][what]);
            }
        }
        C.due("39 no row", x.row(3, 0), -9);
        C.due("39 no row", x.row(-1, 0), -9);
        C.due("39 no what", x.row(0, 3), -9);
        C.due("39 no what", x.row(0, -1), -9);
        C.due("38 nothing changes", x.state(0), 0);
        C.due("38 nothing changes", x.street(7, 0), 40);
        C.due("38 a refusal leaves rows", x.prove(7, 11), -1);
        C.due("50 rows", x.many(4), 3);
        C.due("38 ten", x.prove(0, 10), 10);
        C.due("50 rows", x.many(4), 10);
        C.due("38 fewer", x.prove(0, 1), 1);
        C.due("39 no row any more", x.row(1, 0), -9);
        // the sort of which it has most; of several the least
        DreamNets y = new DreamNets();
        y.sleep(2, 5, 0);
        y.sleep(1, 5, 0);
        y.prove(2, 1);
        C.due("39 of nothing flying", y.row(0, 2), 0);
        y.sleep(2, 3, 7);
        y.sleep(2, 4, 7);
        y.sleep(2, 2, 6);
        y.boat(0, 0, 2, 0);
        y.prove(2, 1);
        C.due("39 school", y.row(0, 2), 3);
        C.due("39 nothing is hauled", y.row(0, 0), 20);
        y.sleep(2, 4, 8);
        y.prove(2, 1);
        C.due("39 nightmare", y.row(0, 2), 4);
        y.sleep(2, 2, 9);
        y.prove(2, 1);
        C.due("39 teeth", y.row(0, 2), 2);
        y.sleep(2, 1, 9);
        y.prove(2, 1);
        C.due("39 falling", y.row(0, 2), 1);
        C.due("40 alter", y.alterRow(0, 1, -77), 0);
        C.due("39 altered", y.row(0, 1), -77);
        C.due("40 alter", y.alterRow(0, 1, Integer.MAX_VALUE), -77);
        C.due("40 alter", y.alterRow(0, 2, 9), 1);
        C.due("40 no row", y.alterRow(1, 0, 5), -9);
        C.due("40 no row", y.alterRow(-1, 0, 5), -9);
        C.due("40 no what", y.alterRow(0, 3, 5), -9);
        C.due("40 no what", y.alterRow(0, -1, 5), -9);
    }

    private static void judges() {
        DreamNets x = new DreamNets();
        C.due("41 no rows", x.judge(0), 0);
        C.due("41 no street", x.judge(8), -1);
        C.due("41 no street", x.judge(-1), -1);
        x.sleep(4, 0, 40);
        x.sleep(4, 3, 50);
        x.prove(4, 10);
        C.due("41 right", x.judge(4), 0);
        C.due("41 nothing changes", x.state(0), 0);
        for (int i = 9; i >= 0; i--) {
            for (int what = 0; what < 3; what++) {
                int was = x.row(i, what);
                x.alterRow(i, what, was + 1);
                C.due("41 wrong", x.judge(4), i + 1);
                x.alterRow(i, what, was);
                C.due("41 right again", x.judge(4), 0);
            }
        }
        x.alterRow(7, 1, 99);
        x.alterRow(3, 0, 1);
        C.due("41 the first", x.judge(4), 4);
        x.prove(4, 10);
        C.due("41 of another street", x.judge(0), 1);
        x.sleep(4, 2, 1);
        C.due("41 from how it is now", x.judge(4), 1);
        x.sleep(4, 2, 0);
        C.due("41 as it was", x.judge(4), 0);
        // behind a bell the sleepers' turn is another
        x.bells(1);
        C.due("41 behind a bell", x.judge(4), 1);
        // a street that is alike at first: sort 3 of street 4 and of street 6
        DreamNets y = new DreamNets();
        y.sleep(6, 3, 5);
        y.sleep(1, 3, 5);
        y.prove(1, 5);
        C.due("41 alike", y.judge(6), 0);
        y.sleep(7, 0, 90);
        C.due("41 alike but for later", y.judge(6), 0);
        y.sleep(5, 0, 3);
        C.due("41 not alike", y.judge(6), 1);
    }

    private static void minds() {
        DreamNets x = new DreamNets();
        C.due("42 missing", x.minds(0, 0, 0, 0), -11);
        C.due("42 no sheet", x.minds(4, 0, 0, 0), -1);
        C.due("42 no sheet", x.minds(-1, 0, 0, 0), -1);
        C.due("42 no street first", x.minds(0, 0, 8, 0), -1);
        C.due("42 no street first", x.minds(0, 0, -1, 0), -1);
        C.due("42 n first", x.minds(0, 0, 0, 6), -1);
        C.due("42 n first", x.minds(0, 0, 0, -1), -1);
        for (int sort = 1; sort < 4; sort++) {
            x.sheet(1, sort, 5);
            C.due("42 another sort", x.minds(1, 9, 0, 5), -13);
        }
        x.sheet(0, 0, 6);
        int[] put = {127, 99, 100, -1, 5, 128};
        for (int i = 0; i < 6; i++) {
            x.put(0, i, put[i]);
        }
        x.sleep(3, 4, 44);
        x.sleep(3, 3, 33);
        C.due("42 four", x.minds(0, 0, 3, 4), 4);
        int[] due = {99, 99, 99, 0, 44};
        for (int sort = 0; sort < 5; sort++) {
            C.due("42 stock", x.street(3, sort), due[sort]);
        }
        C.due("42 from 1", x.minds(0, 1, 3, 5), 5);
        int[] then = {99, 99, 0, 5, 0};
        for (int sort = 0; sort < 5; sort++) {
            C.due("42 stock", x.street(3, sort), then[sort]);
        }
        C.due("42 none", x.minds(0, 6, 3, 0), 0);
        C.due("42 none", x.minds(0, 0, 3, 0), 0);
        C.due("42 not so many", x.minds(0, 2, 3, 5), -12);
        C.due("42 not so many", x.minds(0, 6, 3, 1), -12);
        C.due("42 outside", x.minds(0, 7, 3, 0), -12);
        C.due("42 outside", x.minds(0, -1, 3, 0), -12);
        C.due("42 outside", x.minds(0, Integer.MAX_VALUE, 3, 5), -12);
        C.due("42 outside", x.minds(0, Integer.MIN_VALUE, 3, 5), -12);
        C.due("42 stays", x.street(3, 3), 5);
        x.sheet(2, 0, 0);
        C.due("42 of an empty one", x.minds(2, 0, 3, 0), 0);
        C.due("42 of an empty one", x.minds(2, 0, 3, 1), -12);
    }

    private static void sheets() {
        DreamNets x = new DreamNets();
        C.due("43 no sheet", x.sheet(4, 0, 1), -1);
        C.due("43 no sheet", x.sheet(-1, 0, 1), -1);
        C.due("43 no sort", x.sheet(0, 4, 1), -1);
        C.due("43 no sort", x.sheet(0, -2, 1), -1);
        C.due("43 n", x.sheet(0, 0, 41), -1);
        C.due("43 n", x.sheet(0, 0, Integer.MAX_VALUE), -1);
        C.due("43 below 0", x.sheet(0, 0, -1), -14);
        C.due("43 below 0", x.sheet(0, 3, Integer.MIN_VALUE), -14);
        C.due("43 no sort first", x.sheet(0, 4, -1), -1);
        C.due("43 still missing", x.item(0, 0, 0), -11);
        C.due("43 forty", x.sheet(0, 2, 40), 1);
        for (int i = 0; i < 40; i++) {
            C.due("43 all 0", x.item(0, 2, i), 0);
        }
        x.put(0, 0, 5);
        C.due("43 a refusal changes nothing", x.sheet(0, 1, -1), -14);
        C.due("43 stays", x.item(0, 2, 0), 5);
        C.due("43 anew", x.sheet(0, 2, 1), 1);
        C.due("43 all 0", x.item(0, 2, 0), 0);
        C.due("43 of one", x.item(0, 2, 1), -12);
        C.due("43 none", x.sheet(0, 1, 0), 1);
        C.due("43 none", x.item(0, 1, 0), -12);
        C.due("43 missing, n counts nothing", x.sheet(0, -1, 999), 1);
        C.due("43 missing", x.item(0, 1, 0), -11);
        C.due("43 missing, n counts nothing", x.sheet(0, -1, -5), 1);
    }

    private static void items() {
        DreamNets x = new DreamNets();
        C.due("44 no sheet", x.put(4, 0, 1), -1);
        C.due("44 no sheet", x.put(-1, 0, 1), -1);
        C.due("44 missing", x.put(0, 0, 1), -11);
        C.due("45 no sheet", x.item(4, 0, 0), -1);
        C.due("45 no sheet", x.item(-1, 0, 0), -1);
        C.due("45 no sort first", x.item(0, 4, 0), -1);
        C.due("45 no sort first", x.item(0, -1, 0), -1);
        C.due("45 missing", x.item(0, 3, 0), -11);
        int[] put = {70000, 200, -200, 128, -129, 32768, -32769, Integer.MAX_VALUE, Integer.MIN_VALUE, -12};
        for (int sort = 0; sort < 4; sort++) {
            x.sheet(sort, sort, 10);
            for (int i = 0; i < 10; i++) {
                C.due("44 put", x.put(sort, i, put[i]), 1);
            }
            for (int i = 0; i < 10; i++) {
                int due = sort == 0 ? (byte) put[i] : sort == 1 ? (short) put[i] : put[i];
                C.due("45 item", x.item(sort, sort, i), due);
            }
            C.due("44 outside", x.put(sort, 10, 1), -12);
            C.due("44 outside", x.put(sort, -1, 1), -12);
            C.due("44 outside", x.put(sort, Integer.MIN_VALUE, 1), -12);
            C.due("45 outside", x.item(sort, sort, 10), -12);
            C.due("45 outside", x.item(sort, sort, -1), -12);
            C.due("45 another sort first", x.item(sort, (sort + 1) % 4, 10), -13);
            C.due("45 another sort", x.item(sort, (sort + 3) % 4, 0), -13);
        }
        C.due("45 200 as a byte", x.item(0, 0, 1), -56);
        C.due("45 70000 as a short", x.item(1, 1, 0), 4464);
    }

    private static void shelves() {
        DreamNets x = new DreamNets();
        C.due("46 no boat", x.shelf(0, 0, 0), -1);
        DreamNets fresh = new DreamNets();
        fresh.boat(0, 0, 0, 0);
        for (int shelf = 0; shelf < 4; shelf++) {
            C.due("47 nothing at first", fresh.taken(shelf, 0), -11);
        }
        for (int kind = 0; kind < 6; kind++) {
            x.boat(kind, 0, 0, 0);
        }
        C.due("46 no shelf", x.shelf(4, 0, 0), -1);
        C.due("46 no shelf", x.shelf(-1, 0, 0), -1);
        C.due("46 no what", x.shelf(0, 3, 0), -1);
        C.due("46 no what", x.shelf(0, -1, 0), -1);
        C.due("46 no boat", x.shelf(0, 0, 6), -1);
        C.due("46 no boat", x.shelf(0, 0, -1), -1);
        C.due("46 no sheet", x.shelf(0, 1, 4), -1);
        C.due("46 no sheet", x.shelf(0, 1, -1), -1);
        C.due("46 nothing, n counts nothing", x.shelf(0, 2, 99), 1);
        // which kinds are under which
        String[] under = {"0", "01", "02", "013", "024", "05"};
        for (int kind = 0; kind < 6; kind++) {
            C.due("46 a boat", x.shelf(kind % 4, 0, kind), 1);
            for (int as = 0; as < 6; as++) {
                boolean is = under[kind].indexOf('0' + as) >= 0;
                C.due("47 kind " + kind + " as " + as, x.taken(kind % 4, as), is ? kind : -13);
            }
            for (int as = 10; as < 14; as++) {
                C.due("47 a boat as a row", x.taken(kind % 4, as), -13);
            }
            x.mind(kind, 0, 0);
            C.due("47 of another kind now", x.taken(kind % 4, 0), kind);
            C.due("47 of another kind now", x.taken(kind % 4, 3), -13);
            x.mind(kind, kind, 0);
        }
        C.due("47 no shelf", x.taken(4, 0), -1);
        C.due("47 no shelf", x.taken(-1, 0), -1);
        int[] none = {-1, 6, 7, 8, 9, 14, -10, Integer.MIN_VALUE, Integer.MAX_VALUE};
        for (int as : none) {
            C.due("47 no as " + as, x.taken(0, as), -1);
        }
        x.shelf(0, 2, 0);
        C.due("47 no as first", x.taken(0, 6), -1);
        C.due("47 nothing", x.taken(0, 0), -11);
        C.due("47 nothing", x.taken(0, 13), -11);
    }

    private static void shelvesHoldRows() {
        DreamNets x = new DreamNets();
        C.due("46 of a missing sheet", x.shelf(0, 1, 3), 1);
        C.due("47 nothing", x.taken(0, 10), -11);
        for (int sort = 0; sort < 4; sort++) {
            x.sheet(3, sort, 7 * sort);
            C.due("46 a row", x.shelf(1, 1, 3), 1);
            for (int as = 10; as < 14; as++) {
                C.due("47 items", x.taken(1, as), as - 10 == sort ? 7 * sort : -13);
            }
            for (int as = 0; as < 6; as++) {
                C.due("47 a row as a kind", x.taken(1, as), -13);
            }
        }
        // the shelf holds the row, whatever the sheet becomes
        x.sheet(3, 0, 2);
        C.due("47 the row of then", x.taken(1, 13), 21);
        x.sheet(3, -1, 0);
        C.due("47 the row of then", x.taken(1, 13), 21);
        C.due("47 a missing one was nothing", x.taken(0, 10), -11);
        C.due("46 a missing one", x.shelf(1, 1, 3), 1);
        C.due("47 nothing now", x.taken(1, 13), -11);
        x.sheet(3, 0, 2);
        C.due("47 nothing still", x.taken(1, 10), -11);
        // a row, then a boat
        x.shelf(1, 1, 3);
        x.boat(0, 0, 0, 0);
        C.due("46 a boat", x.shelf(1, 0, 0), 1);
        C.due("47 a boat", x.taken(1, 0), 0);
        C.due("47 no row", x.taken(1, 10), -13);
        C.due("46 a row", x.shelf(1, 1, 3), 1);
        C.due("47 a row", x.taken(1, 10), 2);
        C.due("47 no boat", x.taken(1, 0), -13);
    }

    private static void shelvesHoldByNumber() {
        DreamNets x = new DreamNets();
        x.boat(0, 1, 0, 0);
        x.boat(1, 2, 0, 0);
        x.keep();
        x.shelf(0, 0, 1);
        C.due("47 it", x.taken(0, 1), 1);
        Check.tell(x, "boat 1 at 0 mesh 0;");
        C.due("47 no such one", x.taken(0, 0), -11);
        C.due("48 no such one", x.act(0, 0, 5), 0);
        C.due("49 no trace", x.trace(0), -3);
        x.boat(2, 3, 0, 0);
        C.due("47 another one by that number", x.taken(0, 2), 1);
        x.again();
        C.due("47 the one kept", x.taken(0, 1), 1);
        C.due("47 the one kept", x.taken(0, 2), -13);
    }

    private static void trace(DreamNets x, String call, int... bodies) {
        C.due("50 bodies of " + call, x.many(6), bodies.length);
        for (int i = 0; i < bodies.length; i++) {
            C.due("49 body " + i + " of " + call, x.trace(i), bodies[i]);
        }
        C.due("49 no more of " + call, x.trace(bodies.length), -3);
    }

    private static void acts() {
        DreamNets x = new DreamNets();
        x.boat(0, 0, 0, 0);
        x.boat(0, 8, 0, 0);
        x.boat(0, 9, 0, 0);
        x.shelf(3, 0, 2);
        // n is 2, a is 9
        C.due("48 drags", x.act(3, 0, 10), 8);
        trace(x, "drags", 10);
        C.due("48 lands", x.act(3, 1, 10), 24);
        trace(x, "lands", 11, 10);
        C.due("48 mends by -7", x.act(3, 2, 20), -2);
        trace(x, "mends", 12);
        C.due("48 cut towards 0", x.act(3, 2, -20), 2);
        C.due("48 hums", x.act(3, 3, 10), 33);
        trace(x, "hums", 13, 11, 10);
        C.due("49 below", x.trace(-1), -3);
        C.due("49 far", x.trace(30), -3);
        C.due("49 far", x.trace(Integer.MAX_VALUE), -3);
        C.due("48 ints wrap", x.act(3, 0, Integer.MIN_VALUE), Integer.MAX_VALUE - 1);
        C.due("48 ints wrap", x.act(3, 1, 1 << 30), ((1 << 30) - 2) * 3);
        // by -1 the least stays
        x.shelf(0, 0, 1);
        x.mind(1, 0, 2);
        C.due("48 by -1", x.act(0, 2, 7), -7);
        C.due("48 by -1", x.act(0, 2, Integer.MIN_VALUE), Integer.MIN_VALUE);
    }

    private static void actsOfEachKind() {
        DreamNets x = new DreamNets();
        for (int boat = 0; boat < 4; boat++) {
            x.boat(0, 0, 0, 0);
        }
        // the thing is number 3 and its M is 5; x is 20
        x.shelf(1, 0, 3);
        x.mind(3, 1, 5);
        C.due("48 seiner drags", x.act(1, 0, 20), 17);
        trace(x, "seiner drags", 10);
        C.due("48 seiner lands", x.act(1, 1, 20), 17 * 3 - 3);
        trace(x, "seiner lands", 20, 11, 10);
        C.due("48 seiner mends", x.act(1, 2, 20), -10);
        trace(x, "seiner mends", 12);
        C.due("48 seiner hums", x.act(1, 3, 20), 48 + 5);
        trace(x, "seiner hums", 13, 20, 11, 10);

        x.mind(3, 2, 5);
        // 17 ^ 5 = 20
        C.due("48 drifter drags", x.act(1, 0, 20), 20);
        trace(x, "drifter drags", 30, 10);
        C.due("48 drifter lands", x.act(1, 1, 20), 60);
        trace(x, "drifter lands", 11, 30, 10);
        C.due("48 drifter mends", x.act(1, 2, 20), -10);
        trace(x, "drifter mends", 12);
        // 60 + 5, and 5 by -2
        C.due("48 drifter hums", x.act(1, 3, 20), 65 - 2);
        trace(x, "drifter hums", 31, 13, 11, 30, 10, 12);

        x.mind(3, 3, 5);
        C.due("48 tug drags", x.act(1, 0, 20), 20);
        trace(x, "tug drags", 51, 10);
        C.due("48 tug lands", x.act(1, 1, 20), 57);
        trace(x, "tug lands", 20, 11, 51, 10);
        // 25 by -2 is -12
        C.due("48 tug mends", x.act(1, 2, 20), -24);
        trace(x, "tug mends", 50, 12);
        C.due("48 tug mends", x.act(1, 2, 19), -24);
        C.due("48 tug mends", x.act(1, 2, 21), -26);
        C.due("48 tug hums", x.act(1, 3, 20), 62);
        trace(x, "tug hums", 13, 20, 11, 51, 10);

        x.mind(3, 4, 5);
        C.due("48 dredger drags", x.act(1, 0, 20), 40);
        trace(x, "dredger drags", 40, 30, 10);
        // 40 * 3, less drags(3) = (0 ^ 5) * 2
        C.due("48 dredger lands", x.act(1, 1, 20), 110);
        trace(x, "dredger lands", 41, 11, 40, 30, 10, 40, 30, 10);
        C.due("48 dredger mends", x.act(1, 2, 20), -10);
        trace(x, "dredger mends", 12);
        C.due("48 dredger hums", x.act(1, 3, 20), 110 + 5 - 2);
        trace(x, "dredger hums", 31, 13, 41, 11, 40, 30, 10, 40, 30, 10, 12);

        x.mind(3, 5, 5);
        C.due("48 poacher drags", x.act(1, 0, 20), 17);
        trace(x, "poacher drags", 10);
        C.due("48 poacher lands", x.act(1, 1, 20), 51);
        trace(x, "poacher lands", 11, 10);
        // -10 ^ drags(5) = -10 ^ 2 = -12
        C.due("48 poacher mends", x.act(1, 2, 20), -12);
        trace(x, "poacher mends", 61, 12, 10);
        C.due("48 poacher hums", x.act(1, 3, 20), 7 - 56);
        trace(x, "poacher hums", 60, 13, 11, 10);
    }

    private static void partings() {
        DreamNets x = new DreamNets();
        x.boat(0, 0, 0, 0);
        x.shelf(0, 0, 0);
        C.due("48 parted by 0", x.act(0, 2, 20), -15);
        trace(x, "mends", 12);
        C.due("48 lands doesn't part", x.act(0, 1, 20), 60);
        C.due("48 hums doesn't part", x.act(0, 3, 20), 60);
        x.mind(0, 2, 0);
        C.due("48 drifter hums", x.act(0, 3, 20), -15);
        trace(x, "drifter hums", 31, 13, 11, 30, 10, 12);
        x.mind(0, 3, 0);
        C.due("48 tug mends", x.act(0, 2, 20), -15);
        trace(x, "tug mends", 50, 12);
        x.mind(0, 4, 0);
        C.due("48 dredger hums", x.act(0, 3, 20), -15);
        trace(x, "dredger hums", 31, 13, 41, 11, 40, 30, 10, 40, 30, 10, 12);
        // nothing runs behind the parting
        x.mind(0, 5, 0);
        C.due("48 poacher mends", x.act(0, 2, 20), -15);
        trace(x, "poacher mends", 61, 12);
        x.mind(0, 5, 1);
        C.due("48 it's over then", x.act(0, 2, 20), -20 ^ 1);
    }

    private static void noActs() {
        DreamNets x = new DreamNets();
        x.boat(0, 1, 0, 0);
        x.sheet(0, 0, 3);
        x.shelf(0, 0, 0);
        x.shelf(1, 1, 0);
        int[][] none = {{4, 0}, {-1, 0}, {0, 4}, {0, -1}, {1, 0}, {2, 3}};
        for (int[] call : none) {
            C.due("48 it", x.act(0, 0, 9), 9);
            C.due("49 traced", x.trace(0), 10);
            C.due("48 no such", x.act(call[0], call[1], 9), 0);
            C.due("49 no trace", x.trace(0), -3);
            C.due("50 no trace", x.many(6), 0);
        }
    }

    private static void many() {
        DreamNets x = new DreamNets();
        x.boat(4, 9, 0, 0);
        x.boat(4, 9, 2, 0);
        x.sleep(0, 4, 3);
        x.sleep(2, 4, 3);
        C.due("50 none torn", x.many(1), 0);
        x.haul(0);
        C.due("50 one torn", x.many(1), 1);
        x.haul(1);
        C.due("50 two torn", x.many(1), 2);
        x.sleep(3, 5, 9);
        C.due("50 sleepers", x.many(2), 30);
        C.due("50 wards", x.many(3), 0);
        x.quota(0, 3);
        x.quota(1, 4);
        x.quota(3, 0);
        C.due("50 wards", x.many(3), 2);
        x.feed(0, 5);
        C.due("50 bytes", x.many(5), 5);
        C.due("50 no what", x.many(7), -1);
        C.due("50 no what", x.many(-1), -1);
    }

    private static void keeps() {
        DreamNets x = new DreamNets();
        C.due("52 nothing is kept", x.again(), -3);
        x.boat(4, 5, 6, 7);
        x.boat(0, 0, 1, 0);
        x.set(0, 21);
        x.set(1, 11);
        x.set(2, 12);
        x.price(3, 17);
        x.quota(2, 200);
        x.sleep(6, 4, 60);
        x.sleep(7, 5, 8);
        x.sleep(1, 0, 40);
        C.due("51 haul", x.haul(0), 40);
        x.haul(1);
        x.land(1);
        x.bells(1);
        x.seed(1234);
        C.due("51 keep", x.keep(), 1);
        int[] was = tell(x);
        x.feed(0, 3);
        x.sheet(0, 2, 4);
        x.put(0, 1, 9);
        x.shelf(0, 1, 0);
        x.boat(1, 1, 1, 1);
        x.mind(0, 1, 1);
        x.move(0, 0);
        x.mesh(0, 0);
        x.patch(0);
        x.set(0, 1);
        x.set(1, 1);
        x.set(2, 1);
        x.price(3, 1);
        x.quota(2, 1);
        x.sleep(7, 5, 0);
        x.land(0);
        x.haul(1);
        x.shelf(1, 0, 1);
        x.act(1, 0, 3);
        x.prove(0, 3);
        x.night();
        C.due("52 again", x.again(), 2);
        int[] is = tell(x);
        for (int i = 0; i < was.length; i++) {
            C.due("52 number " + i, is[i], was[i]);
        }
        C.due("52 z", x.seed(99), 1234);
        C.due("52 the tape stays", x.many(5), 3);
        C.due("52 rows stay", x.many(4), 3);
        C.due("52 sheets stay", x.item(0, 2, 1), 9);
        C.due("52 shelves stay", x.taken(0, 12), 4);
        C.due("52 the trace stays", x.many(6), 1);
        // what was kept stays, and the latest counts
        x.bells(9);
        C.due("52 again", x.again(), 2);
        C.due("52 bell", x.state(0), 1);
        C.due("52 z", x.seed(1234), 1234);
        x.bells(2);
        C.due("51 keep", x.keep(), 1);
        x.bells(2);
        C.due("52 again", x.again(), 2);
        C.due("52 bell", x.state(0), 3);
        Check.tell(x, "wake 1;");
        C.due("52 a harbour doesn't touch it", x.again(), 2);
        C.due("52 wake", x.lawOf(0), 21);
    }

    private static int[] tell(DreamNets x) {
        int[] all = new int[3 + 6 + 12 + 64 + 22];
        int next = 0;
        for (int law = 0; law < 3; law++) {
            all[next++] = x.lawOf(law);
        }
        for (int what = 0; what < 6; what++) {
            all[next++] = x.state(what);
        }
        for (int i = 0; i < 12; i++) {
            all[next++] = x.ward(i / 3, i % 3);
        }
        for (int i = 0; i < 64; i++) {
            all[next++] = x.street(i / 8, i % 8);
        }
        for (int i = 0; i < 22; i++) {
            all[next++] = x.of(i / 11, i % 11);
        }
        return all;
    }
}
