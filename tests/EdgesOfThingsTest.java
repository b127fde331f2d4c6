/** The edges that the document names, a test for each sentence: promises 38 to 52. */
public final class EdgesOfThingsTest {
    private static final Check C = new Check("EdgesOfThingsTest");
    private static final int LEAST = Integer.MIN_VALUE, MOST = Integer.MAX_VALUE;

    public static void main(String[] args) {
        // 38 to 41
        proveAtItsEdges();
        proveAnew();
        proveThatIsRefusedLeavesRows();
        proveLooksAtBellsAlone();
        rowAtItsEdges();
        rowOfNone();
        rowOfSeveralTheLeastSort();
        alterRowAtItsEdges();
        alterRowTakesAnyNumber();
        judgeAtItsEdges();
        judgeOfNoRows();
        judgeTellsTheFirstWrongRow();
        judgeFromHowItIsNow();
        // 42
        mindsAtTheirEdges();
        mindsOfAMissingSheet();
        mindsOfAnotherSort();
        mindsOutside();
        mindsOfNone();
        mindsHeldToNinetyNine();
        mindsLeaveTheRest();
        // 43 to 45
        sheetAtItsEdges();
        sheetAboveForty();
        sheetBelowZero();
        sheetMissing();
        sheetAnewIsAllZero();
        putAtItsEdges();
        putIsNarrowed();
        putOnAnEmptyOrMissingSheet();
        itemAtItsEdges();
        itemOfAnotherSort();
        itemsAsLowAsRefusals();
        // 46, 47
        shelvesHoldNothingAtFirst();
        shelfAtItsEdges();
        shelfOfNothing();
        shelfOfAMissingSheet();
        shelfIsBadAndHoldsWhatItHeld();
        takenAtItsEdges();
        takenOfNothing();
        takenOfABoatThatIsGone();
        takenByKinds();
        takenOfRows();
        // 48, 49
        actOfNoSuch();
        actThatIsRefusedLeavesNoTrace();
        actsWrap();
        mendsAreCutTowardsZero();
        mendsPartedByZero();
        actsMayAnswerBelowZero();
        traceAtItsEdges();
        traceOfTheLatestActAlone();
        traceOfTheMostBodies();
        // 50
        manyAtItsEdges();
        manyTorn();
        manyWards();
        manyBytes();
        // 51, 52
        againOfNothing();
        keepTheLatest();
        againStays();
        keepOfNoBoats();
        againLeavesWhatIsNotKept();
        keepIsACopy();
        fiveHundredAndTwelveCalls();
        C.end();
    }

    private static DreamNets with(int kind, int m) {
        DreamNets x = new DreamNets();
        x.boat(kind, m, 0, 0);
        x.shelf(0, 0, 0);
        return x;
    }

    // ---- 38: "ROWS of a STREET by n BELLS (1 to 10): how many. BAD."

    private static void proveAtItsEdges() {
        DreamNets x = new DreamNets();
        int[] noN = {0, -1, 11, LEAST, MOST};
        for (int n : noN) {
            C.due("38 no n " + n, x.prove(0, n), -1);
        }
        int[] noStreet = {-1, 8, LEAST, MOST};
        for (int street : noStreet) {
            C.due("38 no street " + street, x.prove(street, 1), -1);
        }
        C.due("50 no rows", x.many(4), 0);
        for (int n = 1; n <= 10; n++) {
            C.due("38 n", x.prove(n % 8, n), n);
            C.due("50 rows", x.many(4), n);
            C.due("39 the last is there", x.row(n - 1, 0) >= 3 ? 1 : 0, 1);
            C.due("39 none behind it", x.row(n, 0), -9);
        }
    }

    private static void proveAnew() {
        DreamNets x = new DreamNets();
        x.prove(0, 10);
        x.alterRow(0, 0, -5);
        x.alterRow(1, 0, -6);
        C.due("38 fewer", x.prove(0, 1), 1);
        C.due("39 told anew", x.row(0, 0), 3);
        C.due("39 no other", x.row(1, 0), -9);
        C.due("38 more", x.prove(0, 2), 2);
        C.due("39 told anew", x.row(1, 0), 6);
    }

    private static void proveThatIsRefusedLeavesRows() {
        DreamNets x = new DreamNets();
        x.prove(2, 4);
        x.alterRow(3, 1, 77);
        C.due("38 no n", x.prove(2, 11), -1);
        C.due("38 no street", x.prove(8, 2), -1);
        C.due("50 rows", x.many(4), 4);
        C.due("39 as it was", x.row(3, 1), 77);
    }

    // "behind 1, 2, .. n BELLS, tried (nothing is hauled)"
    private static void proveLooksAtBellsAlone() {
        DreamNets x = new DreamNets();
        x.boat(5, 1, 3, 0);
        x.sleep(3, 1, 40);
        x.prove(3, 2);
        // 40 and 5, and 3 of flying; then 50 and 3, and 3 of flying
        C.due("39 the first", x.row(0, 0), 48);
        C.due("39 the second", x.row(1, 0), 56);
        C.due("27 no bell went", x.state(0), 0);
        C.due("9 stock stays", x.street(3, 7), 40);
        C.due("12 nothing is held", x.of(0, 10), 0);
    }

    // ---- 39: "-9: there is none such, another what."

    private static void rowAtItsEdges() {
        DreamNets x = new DreamNets();
        x.prove(0, 3);
        int[] noRow = {-1, 3, 9, 10, LEAST, MOST};
        for (int i : noRow) {
            for (int what = 0; what < 3; what++) {
                C.due("39 no row " + i, x.row(i, what), -9);
            }
        }
        int[] noWhat = {-1, 3, LEAST, MOST};
        for (int what : noWhat) {
            C.due("39 no what " + what, x.row(0, what), -9);
            C.due("39 no row, no what " + what, x.row(3, what), -9);
        }
    }

    private static void rowOfNone() {
        DreamNets x = new DreamNets();
        for (int i = -1; i < 11; i++) {
            C.due("39 none at first", x.row(i, 0), -9);
            C.due("40 none at first", x.alterRow(i, 0, 5), -9);
        }
    }

    // "the SORT of which it has most, of several the least"
    private static void rowOfSeveralTheLeastSort() {
        for (int set = 0; set < 32; set++) {
            DreamNets x = new DreamNets();
            for (int street = 0; street < 8; street++) {
                x.sleep(street, 5, 0);
                for (int sort = 0; sort < 5; sort++) {
                    x.sleep(street, sort, (set >> sort & 1) == 1 ? 40 : 39);
                }
            }
            x.set(1, 20);
            x.prove(5, 1);
            // 39 and one, 40 and two; none at all: all are alike
            int due = set == 0 ? 0 : Integer.numberOfTrailingZeros(set);
            C.due("39 of the set " + set, x.row(0, 2), due);
        }
        DreamNets x = new DreamNets();
        x.sleep(6, 5, 0);
        x.sleep(5, 5, 0);
        x.prove(6, 1);
        C.due("39 of nothing", x.row(0, 2), 0);
        C.due("39 all of nothing", x.row(0, 0), 0);
    }

    // ---- 40: "It becomes v: what it was. -9 likewise."

    private static void alterRowAtItsEdges() {
        DreamNets x = new DreamNets();
        x.prove(0, 2);
        int[] noRow = {-1, 2, 10, LEAST, MOST};
        for (int i : noRow) {
            C.due("40 no row " + i, x.alterRow(i, 0, 1), -9);
        }
        int[] noWhat = {-1, 3, LEAST, MOST};
        for (int what : noWhat) {
            C.due("40 no what " + what, x.alterRow(0, what, 1), -9);
        }
        C.due("41 all is right still", x.judge(0), 0);
    }

    private static void alterRowTakesAnyNumber() {
        DreamNets x = new DreamNets();
        x.prove(0, 10);
        int[] numbers = {0, -1, -9, LEAST, MOST};
        for (int what = 0; what < 3; what++) {
            int was = x.row(9, what);
            for (int v : numbers) {
                C.due("40 what it was", x.alterRow(9, what, v), was);
                C.due("39 it", x.row(9, what), v);
                was = v;
            }
        }
    }

    // ---- 41: "THE READER takes ROWS: 0 all is right (also if there are none); else the first ROW that isn't, and 1 more."

    private static void judgeAtItsEdges() {
        DreamNets x = new DreamNets();
        x.prove(0, 1);
        int[] none = {-1, 8, LEAST, MOST};
        for (int street : none) {
            C.due("41 no street " + street, x.judge(street), -1);
        }
        for (int street = 0; street < 8; street++) {
            C.due("41 streets alike", x.judge(street), 0);
        }
    }

    private static void judgeOfNoRows() {
        DreamNets x = new DreamNets();
        for (int street = 0; street < 8; street++) {
            x.sleep(street, street % 5, 9 * street);
            C.due("41 none", x.judge(street), 0);
        }
        C.due("41 none, no street", x.judge(8), -1);
    }

    private static void judgeTellsTheFirstWrongRow() {
        DreamNets x = new DreamNets();
        x.sleep(1, 4, 30);
        x.prove(1, 10);
        for (int i = 9; i >= 0; i--) {
            x.alterRow(i, i % 3, x.row(i, i % 3) - 1);
            C.due("41 row " + i, x.judge(1), i + 1);
        }
    }

    private static void judgeFromHowItIsNow() {
        DreamNets x = new DreamNets();
        x.sleep(4, 2, 8);
        x.prove(4, 3);
        C.due("41 right", x.judge(4), 0);
        x.sleep(4, 2, 9);
        C.due("41 one more of teeth", x.judge(4), 1);
        x.sleep(4, 2, 8);
        x.sleep(4, 5, 4);
        // a fourth of 4 drifts on, and 3 are left as of 3; the second row tells
        C.due("41 one more sleeper", x.judge(4), 2);
        x.sleep(4, 5, 5);
        C.due("41 two more sleepers", x.judge(4), 1);
        x.sleep(4, 5, 3);
        x.sleep(3, 0, 1);
        // a fourth of 4 comes from 3 then: 3 and 1
        C.due("41 more ahead of it", x.judge(4), 1);
        x.sleep(3, 0, 0);
        x.set(1, 9);
        C.due("41 another breed", x.judge(4), 1);
        x.set(1, 8);
        C.due("41 right again", x.judge(4), 0);
        x.bells(1);
        C.due("41 another bell", x.judge(4), 1);
    }

    // ---- 42: "BAD: no such SHEET, STREET, n; -11; -13; -12"

    private static DreamNets withBytes(int... items) {
        DreamNets x = new DreamNets();
        x.sheet(2, 0, items.length);
        for (int i = 0; i < items.length; i++) {
            x.put(2, i, items[i]);
        }
        return x;
    }

    private static void mindsAtTheirEdges() {
        DreamNets x = withBytes(1, 2, 3, 4, 5);
        int[] noSheet = {-1, 4, LEAST, MOST};
        int[] noStreet = {-1, 8, LEAST, MOST};
        int[] noN = {-1, 6, LEAST, MOST};
        for (int i = 0; i < 4; i++) {
            C.due("42 no sheet " + noSheet[i], x.minds(noSheet[i], 0, 0, 0), -1);
            C.due("42 no street " + noStreet[i], x.minds(2, 0, noStreet[i], 0), -1);
            C.due("42 no n " + noN[i], x.minds(2, 0, 0, noN[i]), -1);
            // ahead of what the host refuses
            C.due("42 no street, missing", x.minds(0, 0, noStreet[i], 0), -1);
            C.due("42 no n, missing", x.minds(0, 0, 0, noN[i]), -1);
            C.due("42 no street, outside", x.minds(2, 9, noStreet[i], 0), -1);
            C.due("42 no n, outside", x.minds(2, 9, 0, noN[i]), -1);
        }
        C.due("27 nothing came", x.state(2), 0);
        for (int n = 0; n <= 5; n++) {
            C.due("42 n", x.minds(2, 0, 7, n), n);
            C.due("9 so many came", x.street(7, 7), n * (n + 1) / 2);
        }
    }

    private static void mindsOfAMissingSheet() {
        DreamNets x = new DreamNets();
        for (int sheet = 0; sheet < 4; sheet++) {
            C.due("42 missing", x.minds(sheet, 0, 0, 0), -11);
            C.due("42 missing, outside", x.minds(sheet, -1, 0, 5), -11);
        }
    }

    private static void mindsOfAnotherSort() {
        for (int sort = 1; sort < 4; sort++) {
            DreamNets x = new DreamNets();
            x.sheet(0, sort, 5);
            C.due("42 sort " + sort, x.minds(0, 0, 0, 5), -13);
            C.due("42 none of it", x.minds(0, 0, 0, 0), -13);
            C.due("42 outside of it", x.minds(0, 6, 0, 5), -13);
            x.sheet(0, sort, 0);
            C.due("42 empty", x.minds(0, 0, 0, 0), -13);
        }
    }

    // "-12: i is not 0 to how many items there are (also for n 0), or there are not so many."
    private static void mindsOutside() {
        DreamNets x = withBytes(1, 2, 3);
        int[] outside = {-1, 4, LEAST, MOST, MOST - 4};
        for (int i : outside) {
            for (int n = 0; n <= 5; n++) {
                C.due("42 from " + i + " by " + n, x.minds(2, i, 0, n), -12);
            }
        }
        for (int i = 0; i <= 3; i++) {
            for (int n = 0; n <= 5; n++) {
                C.due("42 from " + i + " by " + n, x.minds(2, i, 0, n), i + n <= 3 ? n : -12);
            }
        }
        x.sleep(1, 0, 50);
        C.due("42 one too many", x.minds(2, 1, 1, 3), -12);
        C.due("9 nothing came", x.street(1, 7), 50);
    }

    private static void mindsOfNone() {
        DreamNets x = withBytes();
        x.sleep(0, 0, 7);
        C.due("42 none of none", x.minds(2, 0, 0, 0), 0);
        C.due("42 none from 1", x.minds(2, 1, 0, 0), -12);
        C.due("42 none from -1", x.minds(2, -1, 0, 0), -12);
        C.due("42 one of none", x.minds(2, 0, 0, 1), -12);
        C.due("9 stock stays", x.street(0, 0), 7);
        DreamNets y = withBytes(new int[40]);
        C.due("42 none from 40", y.minds(2, 40, 0, 0), 0);
        C.due("42 none from 41", y.minds(2, 41, 0, 0), -12);
        C.due("42 five from 35", y.minds(2, 35, 0, 5), 5);
        C.due("42 five from 36", y.minds(2, 36, 0, 5), -12);
    }

    // "(held to 0 to 99)"
    private static void mindsHeldToNinetyNine() {
        int[][] due = {{0, 0}, {-1, 0}, {1, 1}, {98, 98}, {99, 99}, {100, 99}, {127, 99}, {128, 0}, {-128, 0}, {255, 0},
            {256, 0}, {256 + 50, 50}};
        for (int[] v : due) {
            for (int sort = 0; sort < 5; sort++) {
                DreamNets x = withBytes(7, 7, 7, 7, 7);
                x.put(2, sort, v[0]);
                C.due("42 five", x.minds(2, 0, 3, 5), 5);
                C.due("9 " + v[0] + " of " + sort, x.street(3, sort), v[1]);
                C.due("9 and the others", x.street(3, 7), 28 + v[1]);
            }
        }
    }

    private static void mindsLeaveTheRest() {
        for (int n = 0; n <= 5; n++) {
            DreamNets x = withBytes(1, 1, 1, 1, 1, 1, 1);
            for (int street = 0; street < 8; street++) {
                for (int sort = 0; sort < 5; sort++) {
                    x.sleep(street, sort, 50);
                }
            }
            x.minds(2, 2, 6, n);
            for (int sort = 0; sort < 5; sort++) {
                C.due("9 sort " + sort + " by " + n, x.street(6, sort), sort < n ? 1 : 50);
            }
            C.due("9 sleepers", x.street(6, 5), 3);
            C.due("27 other streets", x.state(2), 2000 - 49 * n);
            C.due("45 the sheet stays", x.item(2, 0, 2), 1);
        }
    }

    // ---- 43: "A SHEET becomes a row of n of a sort, all 0, or missing: 1. BAD: no such SHEET, sort, n above 40; -14."

    private static void sheetAtItsEdges() {
        DreamNets x = new DreamNets();
        int[] noSheet = {-1, 4, LEAST, MOST};
        for (int sheet : noSheet) {
            C.due("43 no sheet " + sheet, x.sheet(sheet, 0, 1), -1);
            C.due("43 no sheet, missing " + sheet, x.sheet(sheet, -1, 1), -1);
            C.due("43 no sheet, below 0 " + sheet, x.sheet(sheet, 0, -1), -1);
        }
        int[] noSort = {-2, 4, LEAST, MOST};
        for (int sort : noSort) {
            C.due("43 no sort " + sort, x.sheet(0, sort, 1), -1);
            C.due("43 no sort, below 0 " + sort, x.sheet(0, sort, -1), -1);
        }
        for (int sheet = 0; sheet < 4; sheet++) {
            for (int sort = 0; sort < 4; sort++) {
                C.due("43 none", x.sheet(sheet, sort, 0), 1);
                C.due("45 none", x.item(sheet, sort, 0), -12);
                C.due("43 one", x.sheet(sheet, sort, 1), 1);
                C.due("45 one", x.item(sheet, sort, 0), 0);
                C.due("43 forty", x.sheet(sheet, sort, 40), 1);
                C.due("45 the last", x.item(sheet, sort, 39), 0);
                C.due("45 no more", x.item(sheet, sort, 40), -12);
            }
        }
    }

    private static void sheetAboveForty() {
        DreamNets x = new DreamNets();
        int[] above = {41, 42, 1000, MOST};
        for (int n : above) {
            for (int sort = 0; sort < 4; sort++) {
                C.due("43 of " + n, x.sheet(1, sort, n), -1);
                C.due("45 still missing", x.item(1, sort, 0), -11);
            }
        }
    }

    private static void sheetBelowZero() {
        DreamNets x = new DreamNets();
        x.sheet(1, 2, 3);
        int[] below = {-1, -40, -41, LEAST};
        for (int n : below) {
            for (int sort = 0; sort < 4; sort++) {
                C.due("43 of " + n, x.sheet(1, sort, n), -14);
                C.due("45 as it was", x.item(1, 2, 2), 0);
            }
        }
    }

    // "(sort -1; n counts nothing then)"
    private static void sheetMissing() {
        int[] any = {0, -1, 40, 41, LEAST, MOST};
        for (int n : any) {
            DreamNets x = new DreamNets();
            C.due("43 missing still", x.sheet(3, -1, n), 1);
            x.sheet(3, 1, 2);
            C.due("43 missing again", x.sheet(3, -1, n), 1);
            C.due("45 missing", x.item(3, 1, 0), -11);
            C.due("44 missing", x.put(3, 0, 1), -11);
        }
    }

    private static void sheetAnewIsAllZero() {
        DreamNets x = new DreamNets();
        for (int sort = 0; sort < 4; sort++) {
            for (int i = 0; i < 2; i++) {
                x.sheet(0, sort, 5);
                for (int k = 0; k < 5; k++) {
                    C.due("45 all 0", x.item(0, sort, k), 0);
                    x.put(0, k, 9);
                }
            }
        }
        x.sheet(1, 3, 5);
        C.due("45 others stay", x.item(0, 3, 4), 9);
    }

    // ---- 44: "Item i becomes v, narrowed to its sort: 1. BAD: no such SHEET; -11; -12."

    private static void putAtItsEdges() {
        DreamNets x = new DreamNets();
        x.sheet(0, 2, 3);
        int[] noSheet = {-1, 4, LEAST, MOST};
        for (int sheet : noSheet) {
            C.due("44 no sheet " + sheet, x.put(sheet, 0, 1), -1);
            C.due("44 no sheet, outside " + sheet, x.put(sheet, -1, 1), -1);
        }
        int[] outside = {-1, 3, 40, LEAST, MOST};
        for (int i : outside) {
            C.due("44 outside " + i, x.put(0, i, 7), -12);
        }
        for (int i = 0; i < 3; i++) {
            C.due("45 nothing came", x.item(0, 2, i), 0);
            C.due("44 put", x.put(0, i, 7 + i), 1);
        }
        for (int i = 0; i < 3; i++) {
            C.due("45 it", x.item(0, 2, i), 7 + i);
        }
    }

    private static void putIsNarrowed() {
        int[][] due = {{127, 127, 127}, {128, -128, 128}, {255, -1, 255}, {256, 0, 256}, {-128, -128, -128},
            {-129, 127, -129}, {-256, 0, -256}, {32767, -1, 32767}, {32768, 0, -32768}, {65535, -1, -1}, {65536, 0, 0},
            {-32768, 0, -32768}, {-32769, -1, 32767}, {MOST, -1, -1}, {LEAST, 0, 0}, {LEAST + 1, 1, 1}, {0, 0, 0}};
        for (int[] v : due) {
            DreamNets x = new DreamNets();
            for (int sort = 0; sort < 4; sort++) {
                x.sheet(sort, sort, 1);
                C.due("44 put", x.put(sort, 0, v[0]), 1);
                C.due("45 " + v[0] + " of sort " + sort, x.item(sort, sort, 0), sort < 2 ? v[1 + sort] : v[0]);
            }
        }
    }

    private static void putOnAnEmptyOrMissingSheet() {
        DreamNets x = new DreamNets();
        int[] any = {0, -1, 1, LEAST, MOST};
        for (int i : any) {
            C.due("44 missing", x.put(2, i, 1), -11);
        }
        for (int sort = 0; sort < 4; sort++) {
            x.sheet(2, sort, 0);
            for (int i : any) {
                C.due("44 empty", x.put(2, i, 1), -12);
            }
        }
    }

    // ---- 45: "Item i, taken for a sort (0 to 3). BAD: no such SHEET, sort; -11; -13; -12."

    private static void itemAtItsEdges() {
        DreamNets x = new DreamNets();
        x.sheet(0, 1, 2);
        int[] noSheet = {-1, 4, LEAST, MOST};
        int[] noSort = {-1, 4, LEAST, MOST};
        int[] outside = {-1, 2, LEAST, MOST};
        for (int i = 0; i < 4; i++) {
            C.due("45 no sheet " + noSheet[i], x.item(noSheet[i], 1, 0), -1);
            C.due("45 no sort " + noSort[i], x.item(0, noSort[i], 0), -1);
            C.due("45 no sort, missing " + noSort[i], x.item(1, noSort[i], 0), -1);
            C.due("45 no sort, outside " + noSort[i], x.item(0, noSort[i], 2), -1);
            C.due("45 outside " + outside[i], x.item(0, 1, outside[i]), -12);
            C.due("45 missing, outside " + outside[i], x.item(1, 1, outside[i]), -11);
        }
    }

    private static void itemOfAnotherSort() {
        for (int sort = 0; sort < 4; sort++) {
            for (int as = 0; as < 4; as++) {
                DreamNets x = new DreamNets();
                x.sheet(0, sort, 1);
                C.due("45 sort " + sort + " as " + as, x.item(0, as, 0), sort == as ? 0 : -13);
                C.due("45 outside, sort " + sort + " as " + as, x.item(0, as, 1), sort == as ? -12 : -13);
            }
        }
    }

    // "(An item may be as low as these, too.)"
    private static void itemsAsLowAsRefusals() {
        int[] low = {-1, -2, -3, -4, -9, -11, -12, -13, -14, -15, -100};
        for (int sort = 0; sort < 4; sort++) {
            DreamNets x = new DreamNets();
            x.sheet(0, sort, 1);
            for (int v : low) {
                C.due("44 put", x.put(0, 0, v), 1);
                C.due("45 it", x.item(0, sort, 0), v);
            }
        }
    }

    // ---- 46: "A SHELF holds a BOAT, the row of SHEET n, nothing: 1. BAD: no such SHELF, what, thing."

    // "or nothing (at first)"
    private static void shelvesHoldNothingAtFirst() {
        DreamNets x = new DreamNets();
        for (int i = 0; i < 4; i++) {
            x.boat(i, i, i, i);
            x.sheet(i, i, i);
        }
        for (int shelf = 0; shelf < 4; shelf++) {
            C.due("47 no boat", x.taken(shelf, 0), -11);
            C.due("47 no row", x.taken(shelf, 10 + shelf), -11);
            C.due("48 no act", x.act(shelf, 0, 9), 0);
            C.due("46 a boat", x.shelf(shelf, 0, shelf), 1);
            C.due("47 it", x.taken(shelf, 0), shelf);
        }
    }

    private static void shelfAtItsEdges() {
        DreamNets x = new DreamNets();
        for (int boat = 0; boat < 6; boat++) {
            C.due("46 no boat yet", x.shelf(0, 0, boat), -1);
            x.boat(0, 0, 0, 0);
            C.due("46 the boat", x.shelf(0, 0, boat), 1);
            C.due("47 it", x.taken(0, 0), boat);
        }
        int[] none = {-1, 6, LEAST, MOST};
        int[] noSheet = {-1, 4, LEAST, MOST};
        int[] noShelf = {-1, 4, LEAST, MOST};
        int[] noWhat = {-1, 3, LEAST, MOST};
        for (int i = 0; i < 4; i++) {
            C.due("46 no boat " + none[i], x.shelf(0, 0, none[i]), -1);
            C.due("46 no sheet " + noSheet[i], x.shelf(0, 1, noSheet[i]), -1);
            C.due("46 no what " + noWhat[i], x.shelf(0, noWhat[i], 0), -1);
            for (int what = 0; what < 3; what++) {
                C.due("46 no shelf " + noShelf[i], x.shelf(noShelf[i], what, 0), -1);
            }
        }
        C.due("47 it holds the last still", x.taken(0, 0), 5);
    }

    private static void shelfOfNothing() {
        int[] any = {0, -1, 6, LEAST, MOST};
        for (int n : any) {
            DreamNets x = with(0, 0);
            C.due("46 nothing", x.shelf(0, 2, n), 1);
            C.due("47 nothing", x.taken(0, 0), -11);
            C.due("46 nothing again", x.shelf(0, 2, n), 1);
        }
    }

    // "(1; nothing, if missing)"
    private static void shelfOfAMissingSheet() {
        for (int sheet = 0; sheet < 4; sheet++) {
            DreamNets x = with(0, 0);
            C.due("46 missing", x.shelf(0, 1, sheet), 1);
            C.due("47 nothing", x.taken(0, 0), -11);
            C.due("47 nothing", x.taken(0, 10), -11);
            x.sheet(sheet, 0, 3);
            C.due("47 nothing still", x.taken(0, 10), -11);
            C.due("46 it is there now", x.shelf(0, 1, sheet), 1);
            C.due("47 it", x.taken(0, 10), 3);
        }
    }

    private static void shelfIsBadAndHoldsWhatItHeld() {
        DreamNets x = with(0, 0);
        x.sheet(0, 3, 4);
        x.shelf(1, 1, 0);
        int[][] none = {{0, 0, 1}, {0, 1, 4}, {0, 3, 0}, {1, 0, 1}, {1, 1, -1}, {1, -1, 0}};
        for (int[] v : none) {
            C.due("46 bad", x.shelf(v[0], v[1], v[2]), -1);
            C.due("47 the boat", x.taken(0, 0), 0);
            C.due("47 the row", x.taken(1, 13), 4);
        }
    }

    // ---- 47: "for a thing of KIND as (0 to 5, ..); for a row of sort as - 10 (as 10 to 13). BAD: no such SHELF, as; -11; -13."

    private static void takenAtItsEdges() {
        DreamNets x = with(0, 0);
        x.sheet(0, 0, 1);
        x.shelf(1, 1, 0);
        int[] noAs = {-1, 6, 7, 9, 14, 15, LEAST, MOST};
        for (int shelf = 0; shelf < 4; shelf++) {
            for (int as : noAs) {
                C.due("47 no as " + as, x.taken(shelf, as), -1);
            }
        }
        int[] noShelf = {-1, 4, LEAST, MOST};
        for (int shelf : noShelf) {
            C.due("47 no shelf " + shelf, x.taken(shelf, 0), -1);
            C.due("47 no shelf " + shelf, x.taken(shelf, 10), -1);
        }
    }

    private static void takenOfNothing() {
        DreamNets x = new DreamNets();
        for (int shelf = 0; shelf < 4; shelf++) {
            for (int as = 0; as < 14; as++) {
                C.due("47 nothing as " + as, x.taken(shelf, as), as < 6 || as > 9 ? -11 : -1);
            }
        }
    }

    // "(by its number; nothing, if there is no such one at the time)"
    private static void takenOfABoatThatIsGone() {
        DreamNets x = new DreamNets();
        for (int boat = 0; boat < 6; boat++) {
            x.boat(3, 0, 0, 0);
        }
        x.shelf(0, 0, 5);
        x.shelf(1, 0, 0);
        Check.tell(x, "dredger 1 at 0 mesh 0;");
        C.due("47 gone", x.taken(0, 0), -11);
        C.due("47 gone, taken for a row", x.taken(0, 10), -11);
        C.due("48 gone", x.act(0, 0, 9), 0);
        C.due("46 gone", x.shelf(2, 0, 5), -1);
        C.due("47 another by the number", x.taken(1, 4), 0);
        C.due("47 not as it was", x.taken(1, 3), -13);
        for (int boat = 1; boat < 6; boat++) {
            C.due("47 gone still", x.taken(0, 0), -11);
            x.boat(5, 0, 0, 0);
        }
        C.due("47 there is one again", x.taken(0, 5), 5);
        C.due("47 it isn't a tug", x.taken(0, 3), -13);
        x.keep();
        x.harbour();
        C.due("47 gone", x.taken(0, 5), -11);
        x.again();
        C.due("47 there again", x.taken(0, 5), 5);
    }

    // "1 seiner, 2 drifter, 5 poacher (under boat); 3 tug (under seiner); 4 dredger (under drifter)"
    private static void takenByKinds() {
        String[] under = {"0", "01", "02", "013", "024", "05"};
        for (int kind = 0; kind < 6; kind++) {
            DreamNets x = with(kind, 0);
            for (int as = 0; as < 6; as++) {
                C.due("47 kind " + kind + " as " + as, x.taken(0, as), under[kind].indexOf('0' + as) < 0 ? -13 : 0);
            }
            for (int as = 10; as < 14; as++) {
                C.due("47 kind " + kind + " as a row", x.taken(0, as), -13);
            }
        }
    }

    private static void takenOfRows() {
        int[] many = {0, 1, 40};
        for (int n : many) {
            for (int sort = 0; sort < 4; sort++) {
                DreamNets x = new DreamNets();
                x.sheet(1, sort, n);
                x.shelf(3, 1, 1);
                for (int as = 0; as < 14; as++) {
                    int due = as > 5 && as < 10 ? -1 : as == 10 + sort ? n : -13;
                    C.due("47 " + n + " of sort " + sort + " as " + as, x.taken(3, as), due);
                }
            }
        }
    }

    // ---- 48: "0, and no TRACE then: no such SHELF, act, nothing, a row."

    private static void actOfNoSuch() {
        DreamNets x = with(0, 1);
        x.sheet(0, 2, 3);
        x.shelf(1, 1, 0);
        int[] noShelf = {-1, 4, LEAST, MOST};
        int[] noAct = {-1, 4, LEAST, MOST};
        for (int i = 0; i < 4; i++) {
            C.due("48 no shelf " + noShelf[i], x.act(noShelf[i], 0, 5), 0);
            C.due("48 no act " + noAct[i], x.act(0, noAct[i], 5), 0);
            C.due("48 a row", x.act(1, i, 5), 0);
            C.due("48 nothing", x.act(2, i, 5), 0);
        }
    }

    private static void actThatIsRefusedLeavesNoTrace() {
        DreamNets x = with(0, 1);
        x.sheet(0, 2, 3);
        x.shelf(1, 1, 0);
        int[][] none = {{-1, 0}, {4, 0}, {0, -1}, {0, 4}, {1, 0}, {2, 0}, {LEAST, 3}, {0, MOST}};
        for (int[] v : none) {
            C.due("48 it", x.act(0, 3, 5), 16);
            C.due("50 bodies", x.many(6), 3);
            C.due("48 none", x.act(v[0], v[1], 5), 0);
            C.due("50 no bodies", x.many(6), 0);
            for (int i = 0; i < 3; i++) {
                C.due("49 none", x.trace(i), -3);
            }
        }
    }

    // "with a number x (ints that wrap)"
    private static void actsWrap() {
        DreamNets x = new DreamNets();
        for (int boat = 0; boat < 6; boat++) {
            x.boat(0, 3, 0, 0);
        }
        x.shelf(0, 0, 5);
        C.due("48 boat drags", x.act(0, 0, LEAST), MOST - 4);
        C.due("48 boat drags", x.act(0, 0, MOST), MOST - 5);
        C.due("48 boat lands", x.act(0, 1, MOST), (MOST - 5) * 3);
        C.due("48 boat lands", x.act(0, 1, LEAST), (int) ((LEAST - 5L) * 3));
        C.due("48 boat hums", x.act(0, 3, LEAST), (int) ((LEAST - 5L) * 3 + 3));
        x.mind(5, 1, 3);
        C.due("48 seiner lands", x.act(0, 1, LEAST), (int) ((LEAST - 5L) * 3 - 5));
        x.mind(5, 2, 3);
        C.due("48 drifter drags", x.act(0, 0, LEAST), (MOST - 4) ^ 3);
        C.due("48 drifter hums", x.act(0, 3, MOST), (int) (((MOST - 5L) ^ 3) * 3 + 3 + 1));
        x.mind(5, 3, 3);
        C.due("48 tug mends by 2", x.act(0, 2, MOST), (MOST + 5) / 2 * 2);
        C.due("48 tug drags", x.act(0, 0, LEAST), LEAST);
        x.mind(5, 3, 4);
        C.due("48 tug mends by 1", x.act(0, 2, MOST), (MOST + 5) * 2);
        x.mind(5, 4, 3);
        C.due("48 dredger drags", x.act(0, 0, LEAST), ((MOST - 4) ^ 3) * 2);
        C.due("48 dredger lands", x.act(0, 1, LEAST), ((MOST - 4) ^ 3) * 2 * 3 - (0 ^ 3) * 2);
        x.mind(5, 5, 6);
        C.due("48 poacher hums", x.act(0, 3, LEAST), (int) (7 - ((LEAST - 5L) * 3 + 6)));
        // by -1 the least comes round to itself
        C.due("48 poacher mends by -1", x.act(0, 2, LEAST), LEAST ^ 1);
        x.mind(5, 0, 6);
        C.due("48 boat mends by -1", x.act(0, 2, LEAST), LEAST);
        C.due("48 boat mends by -1", x.act(0, 2, MOST), -MOST);
    }

    // "12 mends: x by (n - a), cut"
    private static void mendsAreCutTowardsZero() {
        DreamNets x = new DreamNets();
        for (int boat = 0; boat < 6; boat++) {
            x.boat(0, 0, 0, 0);
        }
        x.shelf(0, 0, 5);
        for (int a = 0; a < 10; a++) {
            x.mind(5, 0, a);
            for (int v = -12; v <= 12 && a != 5; v++) {
                int by = 5 - a;
                int size = Math.abs(v) / Math.abs(by);
                C.due("48 " + v + " by " + by, x.act(0, 2, v), v < 0 == by < 0 ? size : -size);
            }
        }
    }

    // "(-15 if these are the same; that is all that act() answers then)"
    private static void mendsPartedByZero() {
        int[][] bodies = {{12}, {12}, {12}, {50, 12}, {12}, {61, 12}};
        for (int boat = 0; boat < 6; boat++) {
            DreamNets x = new DreamNets();
            for (int i = 0; i < 6; i++) {
                x.boat(0, 0, 0, 0);
            }
            x.shelf(2, 0, boat);
            for (int kind = 0; kind < 6; kind++) {
                x.mind(boat, kind, boat);
                int[] numbers = {0, 1, -1, LEAST, MOST};
                for (int v : numbers) {
                    C.due("48 kind " + kind + " mends " + v, x.act(2, 2, v), -15);
                    C.due("50 bodies", x.many(6), bodies[kind].length);
                    for (int i = 0; i < bodies[kind].length; i++) {
                        C.due("49 body", x.trace(i), bodies[kind][i]);
                    }
                }
                boolean mends = kind == 2 || kind == 4;
                C.due("48 kind " + kind + " hums", x.act(2, 3, 100) == -15 ? 1 : 0, mends ? 1 : 0);
                C.due("48 kind " + kind + " drags", x.act(2, 0, 100) > 0 ? 1 : 0, 1);
            }
        }
    }

    private static void actsMayAnswerBelowZero() {
        DreamNets x = with(0, 1);
        for (int v = -20; v < 0; v++) {
            C.due("48 drags " + v, x.act(0, 0, v), v);
            C.due("49 it ran", x.trace(0), 10);
            C.due("48 mends " + v, x.act(0, 2, v), -v);
        }
        C.due("48 mends 15", x.act(0, 2, 15), -15);
        C.due("49 it ran", x.trace(0), 12);
    }

    // ---- 49: "THE TRACE's i-th body. NONE."

    private static void traceAtItsEdges() {
        DreamNets x = new DreamNets();
        int[] none = {-1, 0, 1, 29, 30, LEAST, MOST};
        for (int i : none) {
            C.due("49 none at first, " + i, x.trace(i), -3);
        }
        x.boat(0, 1, 0, 0);
        x.shelf(0, 0, 0);
        x.act(0, 1, 5);
        C.due("49 the first", x.trace(0), 11);
        C.due("49 the last", x.trace(1), 10);
        int[] noBody = {-1, 2, 29, 30, LEAST, MOST};
        for (int i : noBody) {
            C.due("49 none, " + i, x.trace(i), -3);
        }
    }

    private static void traceOfTheLatestActAlone() {
        DreamNets x = with(4, 1);
        x.act(0, 3, 5);
        C.due("50 eleven", x.many(6), 11);
        x.act(0, 0, 5);
        C.due("50 three", x.many(6), 3);
        C.due("49 no fourth", x.trace(3), -3);
        x.bells(1);
        x.mind(0, 0, 0);
        x.shelf(0, 2, 0);
        C.due("50 three still", x.many(6), 3);
        C.due("49 of the act as it was", x.trace(0), 40);
    }

    // "the first 30 are kept": no act has more than 11
    private static void traceOfTheMostBodies() {
        DreamNets x = with(4, 1);
        int[] due = {31, 13, 41, 11, 40, 30, 10, 40, 30, 10, 12};
        for (int run = 0; run < 5; run++) {
            x.act(0, 3, run);
            C.due("50 bodies", x.many(6), due.length);
            for (int i = 0; i < due.length; i++) {
                C.due("49 body " + i, x.trace(i), due[i]);
            }
            C.due("49 no more", x.trace(due.length), -3);
        }
    }

    // ---- 50: "BAD: another what."

    private static void manyAtItsEdges() {
        DreamNets x = new DreamNets();
        int[] none = {-1, 7, LEAST, MOST};
        for (int what : none) {
            C.due("50 no what " + what, x.many(what), -1);
        }
        for (int street = 0; street < 8; street++) {
            x.sleep(street, 5, 9);
        }
        C.due("50 most sleepers", x.many(2), 72);
        for (int street = 0; street < 8; street++) {
            x.sleep(street, 5, 0);
        }
        C.due("50 no sleepers", x.many(2), 0);
    }

    // "TORN ones (9)"
    private static void manyTorn() {
        DreamNets x = new DreamNets();
        for (int boat = 0; boat < 6; boat++) {
            x.boat(4, boat + 3, 0, 0);
            x.sleep(0, 4, 1);
            x.haul(boat);
            C.due("50 torn by " + (boat + 5), x.many(1), Math.max(0, boat - 3));
        }
        x.patch(5);
        C.due("50 one is patched", x.many(1), 1);
        x.mind(4, 0, 0);
        C.due("50 torn whatever its kind", x.many(1), 1);
    }

    // "WARDS in which QUOTA or more was TAKEN"
    private static void manyWards() {
        DreamNets x = new DreamNets();
        x.boat(5, 1, 3, 0);
        x.sleep(3, 1, 20);
        x.haul(0);
        int[][] due = {{999, 0}, {21, 0}, {20, 1}, {19, 1}, {0, 1}};
        for (int[] v : due) {
            x.quota(1, v[0]);
            C.due("50 by a quota of " + v[0], x.many(3), v[1]);
        }
        for (int ward = 0; ward < 4; ward++) {
            x.quota(ward, 0);
        }
        C.due("50 all", x.many(3), 4);
    }

    private static void manyBytes() {
        DreamNets x = new DreamNets();
        C.due("50 none", x.many(5), 0);
        for (int i = 1; i <= 200; i++) {
            x.feed(0x20, 1);
            C.due("50 bytes", x.many(5), i);
        }
        x.feed(0x20, 1);
        C.due("50 no more", x.many(5), 200);
        x.harbour();
        C.due("50 used up", x.many(5), 0);
    }

    // ---- 51, 52: "It becomes what was kept latest (which stays): how many BOATS. NONE: nothing is kept."

    private static void againOfNothing() {
        DreamNets x = new DreamNets();
        C.due("52 nothing", x.again(), -3);
        x.boat(0, 0, 0, 0);
        x.bells(1);
        C.due("52 nothing", x.again(), -3);
        C.due("50 the boat stays", x.many(0), 1);
        C.due("27 the bell stays", x.state(0), 1);
        Check.tell(x, "wake 1;");
        C.due("52 nothing behind a harbour", x.again(), -3);
    }

    private static void keepTheLatest() {
        DreamNets x = new DreamNets();
        for (int boats = 0; boats <= 6; boats++) {
            C.due("51 keep", x.keep(), 1);
            x.boat(0, 0, 0, 0);
            C.due("52 again", x.again(), boats);
            x.boat(0, 0, 0, 0);
        }
        C.due("52 six", x.again(), 6);
    }

    // "(which stays)"
    private static void againStays() {
        DreamNets x = new DreamNets();
        x.sleep(2, 3, 44);
        x.keep();
        for (int i = 0; i < 5; i++) {
            x.sleep(2, 3, i);
            x.boat(0, 0, 0, 0);
            C.due("52 again", x.again(), 0);
            C.due("9 stock", x.street(2, 3), 44);
        }
    }

    private static void keepOfNoBoats() {
        DreamNets x = new DreamNets();
        C.due("51 keep", x.keep(), 1);
        x.boat(0, 0, 0, 0);
        C.due("52 no boats", x.again(), 0);
        C.due("12 none", x.of(0, 0), -1);
    }

    // "All but THE TAPE, ROWS, SHEETS, SHELVES, THE TRACE is kept"
    private static void againLeavesWhatIsNotKept() {
        DreamNets x = with(0, 1);
        x.keep();
        x.feed(0x20, 1);
        x.prove(0, 2);
        x.alterRow(0, 0, 55);
        x.sheet(0, 2, 1);
        x.put(0, 0, 66);
        x.shelf(0, 1, 0);
        x.shelf(1, 0, 0);
        x.act(1, 1, 5);
        C.due("52 again", x.again(), 1);
        C.due("50 tape", x.many(5), 1);
        C.due("50 rows", x.many(4), 2);
        C.due("39 row", x.row(0, 0), 55);
        C.due("45 sheet", x.item(0, 2, 0), 66);
        C.due("47 shelf", x.taken(0, 12), 1);
        C.due("47 shelf", x.taken(1, 0), 0);
        C.due("49 trace", x.trace(1), 10);
    }

    private static void keepIsACopy() {
        DreamNets x = with(2, 3);
        for (int sort = 0; sort < 5; sort++) {
            x.sleep(0, sort, 50);
        }
        x.seed(99);
        x.keep();
        x.haul(0);
        x.bells(3);
        x.again();
        C.due("27 stock", x.state(2), 250);
        C.due("27 held", x.state(3), 0);
        C.due("12 torn", x.of(0, 4), 0);
        C.due("24 z", x.seed(5), 99);
        // what comes behind again() doesn't touch what is kept
        x.haul(0);
        x.mind(0, 5, 9);
        x.mesh(0, 9);
        x.move(0, 7);
        x.again();
        int[] due = {2, 3, 0, 0, 0};
        for (int what = 0; what < 5; what++) {
            C.due("12 of " + what, x.of(0, what), due[what]);
        }
        C.due("27 stock", x.state(2), 250);
    }

    // "An object is used for at most 512 calls after it has been made"
    private static void fiveHundredAndTwelveCalls() {
        DreamNets x = new DreamNets();
        x.boat(5, 1, 0, 0);
        int coins = 0;
        int calls = 1;
        while (calls + 4 <= 511) {
            x.sleep(0, 1, 99);
            x.haul(0);
            x.quota(0, 999);
            coins += x.land(0);
            calls += 4;
        }
        C.due("27 coins at the last", x.state(1), coins);
        C.due("21 eleven hauls to the quota", coins, 11 * 396);
    }
}
