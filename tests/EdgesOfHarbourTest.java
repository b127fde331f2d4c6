/** The edges that the document names, a test for each sentence: promises 1 to 10 and the text of a harbour. */
public final class EdgesOfHarbourTest {
    private static final Check C = new Check("EdgesOfHarbourTest");
    private static final int LEAST = Integer.MIN_VALUE, MOST = Integer.MAX_VALUE;

    public static void main(String[] args) {
        // 1
        noBoatsAtFirst();
        nothingIsKeptAtFirst();
        objectsAreByThemselves();
        // 2
        feedTakesOneToEightBytes();
        feedTakesTheLowestFirst();
        feedLeavesTheBytesAboveN();
        feedTells();
        feedIsFullAboveTwoHundred();
        feedIsBadAheadOfFull();
        feedThatIsRefusedFeedsNothing();
        feedTakesAnyByte();
        // 3
        harbourOfAnEmptyTape();
        harbourOfBlanksAlone();
        harbourOfTwoHundredBytes();
        harbourUsesUpTheTape();
        harbourThatIsRefusedUsesUpTheTapeAlone();
        harbourLeavesNoRows();
        harbourTellsAllAnew();
        harbourOfFewerBoatsLeavesNothingOver();
        harbourLeavesZ();
        harbourLeavesWhatIsKept();
        harbourTakesSixBoats();
        faultAtTheNameOfASeventhBoat();
        numbersAtTheirEdges();
        faultsOfNumbersOutOfRange();
        numbersAreOfThreeDigitsAtMost();
        namesAsLongAsTheyGo();
        blanksPartThem();
        blanksStandAsOneLikes();
        faultAtTheEndIfMoreMustCome();
        faultAtOtherBytes();
        faultAtWhatCanNotStandThere();
        theFirstFaultCounts();
        theLatestTellingCounts();
        // 4 to 10
        lawsAtTheirEdges();
        noSuchLaw();
        pricesAtTheirEdges();
        noSuchPrice();
        quotasAtTheirEdges();
        noSuchWard();
        wardsAreOfTwoStreets();
        takenMayPassTheQuota();
        stockAtItsEdges();
        sleepersAtTheirEdges();
        noSuchStreet();
        lacksIsAllThatWasEverTaken();
        C.end();
    }

    // ---- 1: "No BOATS; nothing is kept."

    private static void noBoatsAtFirst() {
        DreamNets x = new DreamNets();
        C.due("1 many(0)", x.many(0), 0);
        C.due("1 of(0, 0)", x.of(0, 0), -1);
        C.due("1 haul(0)", x.haul(0), -1);
        C.due("1 the first boat is 0", x.boat(0, 0, 0, 0), 0);
    }

    private static void nothingIsKeptAtFirst() {
        DreamNets x = new DreamNets();
        C.due("1 again()", x.again(), -3);
        x.boat(0, 0, 0, 0);
        C.due("1 again() with a boat", x.again(), -3);
        C.due("1 the boat is there", x.many(0), 1);
    }

    private static void objectsAreByThemselves() {
        DreamNets x = new DreamNets();
        DreamNets y = new DreamNets();
        x.boat(5, 1, 2, 3);
        x.price(0, 30);
        x.set(0, 99);
        x.feed(0x20, 1);
        x.sheet(0, 2, 4);
        x.shelf(0, 0, 0);
        x.act(0, 0, 1);
        x.sleep(3, 1, 99);
        x.prove(3, 4);
        x.keep();
        C.due("1 boats of another", y.many(0), 0);
        C.due("1 price of another", y.price(0, 9), 9);
        C.due("1 law of another", y.lawOf(0), 10);
        C.due("1 tape of another", y.many(5), 0);
        C.due("1 sheet of another", y.item(0, 2, 0), -11);
        C.due("1 shelf of another", y.taken(0, 0), -11);
        C.due("1 trace of another", y.many(6), 0);
        C.due("1 rows of another", y.many(4), 0);
        C.due("1 kept by another", y.again(), -3);
        DreamNets z = new DreamNets();
        C.due("1 price of a later one", z.price(0, 9), 9);
        C.due("1 stock of a later one", z.state(2), 0);
    }

    // ---- 2: "n bytes (1 to 8) come to THE TAPE, the lowest of eight first: how many it has. BAD; FULL: more than 200."

    private static void feedTakesOneToEightBytes() {
        int[] none = {0, -1, 9, -8, 256 + 1, LEAST, MOST};
        for (int n : none) {
            DreamNets x = new DreamNets();
            C.due("2 feed of " + n, x.feed(-1L, n), -1);
            C.due("2 nothing came", x.many(5), 0);
        }
        for (int n = 1; n <= 8; n++) {
            DreamNets x = new DreamNets();
            C.due("2 feed of " + n, x.feed(0x2020202020202020L, n), n);
            C.due("2 so many came", x.many(5), n);
            C.due("2 all were blanks", x.harbour(), 0);
        }
    }

    private static void feedTakesTheLowestFirst() {
        DreamNets x = new DreamNets();
        x.feed(0x656b6177L, 4);
        x.feed(0x3b3720L, 3);
        C.due("2 \"wake 7;\"", x.harbour(), 0);
        C.due("2 wake", x.lawOf(0), 7);
        x.feed(0x77616b65L, 4);
        C.due("2 \"ekaw\"", x.harbour(), -100);
    }

    private static void feedLeavesTheBytesAboveN() {
        DreamNets x = new DreamNets();
        x.feed(0x3b3920_656b6177L, 4);
        x.feed(0x7f7f7f7f_7f3b3520L, 3);
        C.due("2 \"wake 5;\"", x.harbour(), 0);
        C.due("2 wake", x.lawOf(0), 5);
    }

    private static void feedTells() {
        DreamNets x = new DreamNets();
        C.due("2 one", x.feed(0x20, 1), 1);
        C.due("2 eight more", x.feed(0x2020202020202020L, 8), 9);
        C.due("2 two more", x.feed(0x2020, 2), 11);
    }

    private static void feedIsFullAboveTwoHundred() {
        DreamNets x = new DreamNets();
        for (int i = 1; i <= 25; i++) {
            C.due("2 feed " + i, x.feed(0x2020202020202020L, 8), 8 * i);
        }
        C.due("2 one more", x.feed(0x20, 1), -2);
        C.due("2 eight more", x.feed(0x20, 8), -2);
        C.due("2 two hundred stay", x.many(5), 200);
        for (int n = 1; n <= 8; n++) {
            DreamNets y = new DreamNets();
            Check.lay(y, " ".repeat(200 - n));
            if (n < 8) {
                C.due("2 one too many", y.feed(0x20, n + 1), -2);
            }
            C.due("2 just so many", y.feed(0x2020202020202020L, n), 200);
            C.due("2 one more", y.feed(0x20, 1), -2);
        }
    }

    private static void feedIsBadAheadOfFull() {
        DreamNets x = new DreamNets();
        Check.lay(x, " ".repeat(200));
        C.due("2 none, full", x.feed(0, 0), -1);
        C.due("2 nine, full", x.feed(0, 9), -1);
        C.due("2 most, full", x.feed(0, MOST), -1);
        C.due("2 least, full", x.feed(0, LEAST), -1);
        C.due("2 eight, full", x.feed(0, 8), -2);
    }

    private static void feedThatIsRefusedFeedsNothing() {
        DreamNets x = new DreamNets();
        Check.lay(x, " ".repeat(189) + "wake");
        C.due("2 more than fits", x.feed(0x2121212121212121L, 8), -2);
        C.due("2 193 stay", x.many(5), 193);
        C.due("2 seven fit", x.feed(0x20203b34_322020L, 7), 200);
        C.due("2 what was refused isn't there", x.harbour(), 0);
        C.due("2 wake", x.lawOf(0), 24);
    }

    private static void feedTakesAnyByte() {
        for (int b = 0; b < 256; b++) {
            DreamNets x = new DreamNets();
            C.due("2 byte " + b, x.feed(b, 1), 1);
            C.due("3 harbour of byte " + b, x.harbour(), b == 32 ? 0 : -100);
        }
    }

    // ---- 3: "THE TAPE becomes all: how many BOATS; -100 less its FAULT. There are no ROWS then."

    private static void harbourOfAnEmptyTape() {
        DreamNets x = new DreamNets();
        x.boat(0, 0, 0, 0);
        x.sleep(0, 0, 9);
        C.due("3 nothing", x.harbour(), 0);
        C.due("3 no boats", x.many(0), 0);
        C.due("3 no stock", x.state(2), 0);
        C.due("3 nothing again", x.harbour(), 0);
    }

    private static void harbourOfBlanksAlone() {
        int[] many = {1, 7, 8, 199, 200};
        for (int blanks : many) {
            DreamNets x = new DreamNets();
            x.boat(0, 0, 0, 0);
            C.due("3 blanks " + blanks, Check.tell(x, " ".repeat(blanks)), 0);
            C.due("3 no boats", x.many(0), 0);
        }
    }

    private static void harbourOfTwoHundredBytes() {
        DreamNets x = new DreamNets();
        C.due("3 the last byte counts", Check.tell(x, "wake 4" + " ".repeat(193) + ";"), 0);
        C.due("3 wake", x.lawOf(0), 4);
        C.due("3 more must come behind 200", Check.tell(x, "wake 4" + " ".repeat(194)), -300);
        C.due("3 the last byte is a fault", Check.tell(x, "wake 4;" + " ".repeat(192) + ";"), -299);
        C.due("3 a name to the end", Check.tell(x, " ".repeat(196) + "wake"), -300);
        C.due("3 another name to the end", Check.tell(x, " ".repeat(195) + "wakes"), -295);
        C.due("3 a number to the end", Check.tell(x, " ".repeat(194) + "wake99"), -300);
        C.due("3 too long a number to the end", Check.tell(x, " ".repeat(192) + "wake9999"), -296);
        C.due("3 wake stays", x.lawOf(0), 4);
    }

    private static void harbourUsesUpTheTape() {
        DreamNets x = new DreamNets();
        C.due("3 a harbour", Check.tell(x, "tug 1 at 2 mesh 3;"), 1);
        C.due("3 used up", x.many(5), 0);
        C.due("3 nothing is told then", x.harbour(), 0);
        C.due("3 fed anew", x.feed(0x20, 1), 1);
    }

    // "such a call changes nothing (but that THE TAPE is used up by harbour())"
    private static void harbourThatIsRefusedUsesUpTheTapeAlone() {
        DreamNets x = new DreamNets();
        x.boat(3, 4, 5, 6);
        x.quota(2, 7);
        x.sleep(1, 5, 8);
        x.price(3, 9);
        x.prove(0, 3);
        C.due("3 a fault behind much", Check.tell(x, "quota 2 1;street 1 sleepers 1;price school 1;wake 1;tug"), -155);
        C.due("3 used up", x.many(5), 0);
        C.due("3 boats stay", x.many(0), 1);
        C.due("3 quota stays", x.ward(2, 0), 7);
        C.due("3 sleepers stay", x.street(1, 5), 8);
        C.due("3 price stays", x.price(3, 1), 9);
        C.due("3 wake stays", x.lawOf(0), 10);
        C.due("3 rows stay", x.many(4), 3);
    }

    private static void harbourLeavesNoRows() {
        DreamNets x = new DreamNets();
        x.prove(0, 10);
        C.due("3 of nothing", x.harbour(), 0);
        C.due("3 no rows", x.many(4), 0);
        C.due("3 no row", x.row(0, 0), -9);
        C.due("3 none to alter", x.alterRow(0, 0, 1), -9);
        C.due("3 none to judge", x.judge(0), 0);
    }

    // "It is all by it alone (what it doesn't tell is as at first)"
    private static void harbourTellsAllAnew() {
        DreamNets x = new DreamNets();
        x.boat(4, 9, 1, 0);
        for (int sort = 0; sort < 5; sort++) {
            x.sleep(1, sort, 99);
        }
        x.haul(0);
        x.land(0);
        x.patch(0);
        x.haul(0);
        x.bells(7);
        x.set(0, 0);
        x.set(1, 20);
        x.set(2, 20);
        x.quota(0, 0);
        x.price(4, 30);
        x.sleep(7, 5, 0);
        C.due("3 a harbour", Check.tell(x, "street 7 school 5;"), 0);
        C.due("3 bell", x.state(0), 0);
        C.due("3 coins", x.state(1), 0);
        C.due("3 stock", x.state(2), 5);
        C.due("3 held", x.state(3), 0);
        C.due("3 empty", x.state(4), 127);
        C.due("3 may", x.state(5), 0);
        C.due("3 wake", x.lawOf(0), 10);
        C.due("3 breed", x.lawOf(1), 8);
        C.due("3 drift", x.lawOf(2), 4);
        C.due("3 quota", x.ward(0, 0), 999);
        C.due("3 taken", x.ward(0, 1), 0);
        C.due("3 lacks", x.street(1, 6), 0);
        C.due("3 sleepers", x.many(2), 24);
        C.due("3 price", x.price(4, 1), 12);
        C.due("11 a boat then", x.boat(0, 0, 1, 0), 0);
        C.due("12 it isn't torn", x.of(0, 4), 0);
        C.due("12 it holds nothing", x.of(0, 10), 0);
    }

    // what was tried or held once doesn't come up again
    private static void harbourOfFewerBoatsLeavesNothingOver() {
        DreamNets x = new DreamNets();
        for (int boat = 0; boat < 6; boat++) {
            x.boat(4, 9, boat, 0);
            for (int sort = 0; sort < 5; sort++) {
                x.sleep(boat, sort, 90);
            }
            x.haul(boat);
        }
        x.plan(5, 4);
        x.lasts();
        x.month(3, 5);
        C.due("3 a fault", Check.tell(x, "tug 1 at 1 mesh 1;street 3 teeth 9"), -134);
        C.due("27 held still", x.state(3) > 1000 ? 1 : 0, 1);
        C.due("3 none", x.harbour(), 0);
        for (int boat = 0; boat < 6; boat++) {
            C.due("27 nothing is held", x.state(3), 0);
            C.due("50 none is torn", x.many(1), 0);
            C.due("27 stock", x.state(2), 0);
            x.boat(0, 0, boat, 0);
            for (int what = 4; what < 11; what++) {
                C.due("12 of it " + what, x.of(boat, what), 0);
            }
            C.due("9 lacks", x.street(boat, 6), 0);
        }
    }

    private static void harbourLeavesZ() {
        int[] zs = {0, 1, -1, 12345, LEAST, MOST};
        for (int z : zs) {
            DreamNets x = new DreamNets();
            x.seed(z);
            Check.tell(x, "wake 3;");
            C.due("3 z stays", x.seed(0), z);
            x.seed(z);
            Check.tell(x, "wake");
            C.due("3 z stays behind a fault", x.seed(0), z);
        }
    }

    private static void harbourLeavesWhatIsKept() {
        DreamNets x = new DreamNets();
        x.boat(0, 0, 0, 0);
        x.keep();
        C.due("3 a harbour", Check.tell(x, "boat 1 at 1 mesh 1;boat 2 at 2 mesh 2;"), 2);
        C.due("52 again", x.again(), 1);
        C.due("52 it", x.of(0, 1), 0);
    }

    private static void harbourTakesSixBoats() {
        DreamNets x = new DreamNets();
        String six = "boat 0 at 0 mesh 0;seiner 1 at 1 mesh 1;drifter 2 at 2 mesh 2;tug 3 at 3 mesh 3;"
                + "dredger 4 at 4 mesh 4;poacher 5 at 5 mesh 5;";
        C.due("3 six", Check.tell(x, six), 6);
        int[] kinds = {0, 1, 2, 3, 4, 5};
        for (int boat = 0; boat < 6; boat++) {
            C.due("3 kind", x.of(boat, 0), kinds[boat]);
            C.due("3 m", x.of(boat, 1), boat);
            C.due("3 at", x.of(boat, 2), boat);
            C.due("3 mesh", x.of(boat, 3), boat);
        }
        C.due("11 full then", x.boat(0, 0, 0, 0), -2);
    }

    private static void fault(String text, int place) {
        DreamNets x = new DreamNets();
        x.boat(2, 3, 4, 5);
        C.due("3 fault of \"" + text + "\"", Check.tell(x, text), -100 - place);
        C.due("3 the tape is used up by \"" + text + "\"", x.many(5), 0);
        C.due("3 nothing is changed by \"" + text + "\"", x.of(0, 1), 3);
    }

    private static void faultAtTheNameOfASeventhBoat() {
        String six = "tug 0 at 0 mesh 0;".repeat(6);
        String[] kinds = {"boat", "seiner", "drifter", "tug", "dredger", "poacher"};
        for (String kind : kinds) {
            fault(six + kind + " 0 at 0 mesh 0;", 108);
            fault(six + kind, 108);
            fault(six + "   " + kind + " 10", 111);
            fault(six + "wake 9;" + kind + ";", 115);
        }
        DreamNets x = new DreamNets();
        C.due("3 six and more of others", Check.tell(x, six + "wake 9;price teeth 9;"), 6);
    }

    private static void numbersAtTheirEdges() {
        DreamNets x = new DreamNets();
        C.due("3 the least", Check.tell(x, "boat 0 at 0 mesh 0;street 0 sleepers 0;street 0 flying 0;price flying 1;"
                + "quota 0 0;wake 0;"), 1);
        C.due("3 m", x.of(0, 1), 0);
        C.due("3 sleepers", x.street(0, 5), 0);
        C.due("3 quota", x.ward(0, 0), 0);
        C.due("3 wake", x.lawOf(0), 0);
        C.due("3 price", x.price(0, 2), 1);
        C.due("3 the most", Check.tell(x, "boat 9 at 7 mesh 9;street 7 sleepers 9;street 7 nightmare 99;"
                + "price nightmare 30;quota 3 999;wake 99;"), 1);
        C.due("3 m", x.of(0, 1), 9);
        C.due("3 at", x.of(0, 2), 7);
        C.due("3 mesh", x.of(0, 3), 9);
        C.due("3 sleepers", x.street(7, 5), 9);
        C.due("3 stock", x.street(7, 4), 99);
        C.due("3 quota", x.ward(3, 0), 999);
        C.due("3 wake", x.lawOf(0), 99);
        C.due("3 price", x.price(4, 2), 30);
    }

    private static void faultsOfNumbersOutOfRange() {
        fault("boat 10 at 0 mesh 0;", 5);
        fault("boat 0 at 8 mesh 0;", 10);
        fault("boat 0 at 0 mesh 10;", 17);
        fault("street 8 sleepers 0;", 7);
        fault("street 0 sleepers 10;", 18);
        fault("street 0 flying 100;", 16);
        fault("street 0 falling 100;", 17);
        fault("street 0 teeth 100;", 15);
        fault("street 0 school 100;", 16);
        fault("street 0 nightmare 100;", 19);
        fault("price flying 0;", 13);
        fault("price flying 31;", 13);
        fault("price falling 000;", 14);
        fault("quota 4 0;", 6);
        fault("wake 100;", 5);
        fault("wake 999;", 5);
        // ahead of a fault behind it, and at the end
        fault("wake 100", 5);
        fault("boat 10", 5);
        fault("street 8", 7);
    }

    private static void numbersAreOfThreeDigitsAtMost() {
        DreamNets x = new DreamNets();
        C.due("3 one digit", Check.tell(x, "wake 7;"), 0);
        C.due("3 two digits", Check.tell(x, "wake 07;"), 0);
        C.due("3 three digits", Check.tell(x, "wake 007;boat 000 at 007 mesh 009;quota 003 099;"), 1);
        C.due("3 wake", x.lawOf(0), 7);
        C.due("3 at", x.of(0, 2), 7);
        C.due("3 mesh", x.of(0, 3), 9);
        C.due("3 quota", x.ward(3, 0), 99);
        fault("wake 0007;", 5);
        fault("wake 0000;", 5);
        fault("boat 0000 at 0 mesh 0;", 5);
        fault("quota 3 1000;", 8);
        fault("quota 3 0999;", 8);
        fault("quota 0003 5;", 6);
        // at each place where a number stands
        fault("tug 0001 at 1 mesh 1;", 4);
        fault("tug 1 at 0001 mesh 1;", 9);
        fault("tug 1 at 1 mesh 0001;", 16);
        fault("street 0001 teeth 1;", 7);
        fault("street 1 teeth 0001;", 15);
        fault("street 1 sleepers 0001;", 18);
        fault("price teeth 0001;", 12);
        fault("quota 0001 1;", 6);
        fault("quota 1 0001;", 8);
        fault("wake 0001;", 5);
        // as far as ints and longs come round
        fault("quota 0 4294967296;", 8);
        fault("quota 0 18446744073709551616;", 8);
        fault("quota 0 " + "9".repeat(190) + ";", 8);
    }

    private static void namesAsLongAsTheyGo() {
        fault("boatboat 0 at 0 mesh 0;", 0);
        fault("wakes 0;", 0);
        fault("wak 0;", 0);
        fault("w 0;", 0);
        fault("tugs 0 at 0 mesh 0;", 0);
        fault("street 0 flyingfish 0;", 9);
        fault("street 0 sleep 0;", 9);
        fault("tug 0 at 0 meshes 0;", 11);
        fault("tug 0 a 0 mesh 0;", 6);
        fault("tug 0 atat 0 mesh 0;", 6);
        fault("a".repeat(200), 0);
        // only small letters are of names: a is the first, z the last
        fault("wakez 1;", 0);
        fault("wakea 1;", 0);
        fault("wake` 1;", 4);
        fault("wake{ 1;", 4);
        fault("wakE 1;", 0);
        fault("Wake 1;", 0);
        fault("wake\u00e4 1;", 4);
        // and 0 to 9 of numbers
        fault("wake 1/;", 6);
        fault("wake 1:;", 6);
        fault("wake /1;", 5);
        fault("wake :1;", 5);
    }

    private static void blanksPartThem() {
        fault("wa ke 1;", 0);
        fault("boat 0 at 0 me sh 0;", 12);
        fault("wake 1 2;", 7);
        fault("quota 12;", 6);
        fault("quota 1 2 3;", 10);
        DreamNets x = new DreamNets();
        C.due("3 names and numbers part one another", Check.tell(x, "tug1at2mesh3;street4sleepers5;quota0 6;wake7;"), 1);
        C.due("3 m", x.of(0, 1), 1);
        C.due("3 at", x.of(0, 2), 2);
        C.due("3 mesh", x.of(0, 3), 3);
        C.due("3 sleepers", x.street(4, 5), 5);
        C.due("3 quota", x.ward(0, 0), 6);
        C.due("3 wake", x.lawOf(0), 7);
    }

    private static void blanksStandAsOneLikes() {
        DreamNets x = new DreamNets();
        C.due("3 ahead, between, behind", Check.tell(x, "   tug   1   at   2   mesh   3   ;   wake   4   ;   "), 1);
        C.due("3 at", x.of(0, 2), 2);
        C.due("3 wake", x.lawOf(0), 4);
        // no other byte is a blank
        fault("wake\t1;", 4);
        fault("wake 1;\n", 7);
        fault("wake\u00001;", 4);
        fault("wake\u00a01;", 4);
        fault("wake 1\r;", 6);
        fault("wake_1;", 4);
        fault("wake 1;\u001f", 7);
        fault("wake 1;!", 7);
    }

    private static void faultAtTheEndIfMoreMustCome() {
        String[] parts = {"tug", "tug 1", "tug 1 at", "tug 1 at 2", "tug 1 at 2 mesh", "tug 1 at 2 mesh 3",
            "street", "street 1", "street 1 sleepers", "street 1 sleepers 2", "street 1 teeth", "street 1 teeth 2",
            "price", "price teeth", "price teeth 2", "quota", "quota 1", "quota 1 2", "wake", "wake 1"};
        for (String part : parts) {
            fault(part, part.length());
            // the end is behind the blanks: how many bytes there are
            fault(part + "   ", part.length() + 3);
            fault("wake 1;" + part, 7 + part.length());
        }
    }

    private static void faultAtOtherBytes() {
        for (int b = 0; b < 256; b++) {
            char sign = (char) b;
            boolean letter = sign >= 'a' && sign <= 'z';
            boolean digit = sign >= '0' && sign <= '9';
            DreamNets x = new DreamNets();
            if (sign != ' ') {
                C.due("3 byte " + b + " at first", Check.tell(x, sign + "wake 1;"), -100);
                C.due("3 byte " + b + " at last", Check.tell(x, "wake 1;" + sign), -107);
            }
            if (!digit && sign != ' ') {
                C.due("3 byte " + b + " for a number", Check.tell(x, "wake " + sign + ";"), -105);
                C.due("3 byte " + b + " behind a number", Check.tell(x, "wake 1" + sign), sign == ';' ? 0 : -106);
            }
            if (!letter && sign != ' ') {
                C.due("3 byte " + b + " for a name", Check.tell(x, "street 1 " + sign + "teeth 1;"), -109);
            }
        }
    }

    private static void faultAtWhatCanNotStandThere() {
        fault(";", 0);
        fault("7", 0);
        fault("at", 0);
        fault("mesh 1;", 0);
        fault("teeth 1;", 0);
        fault("sleepers 1;", 0);
        fault("breed 1;", 0);
        fault("drift 1;", 0);
        fault("tug;", 3);
        fault("tug at 1 mesh 1;", 4);
        fault("tug 1 mesh 1;", 6);
        fault("tug 1 1 mesh 1;", 6);
        fault("tug 1;", 5);
        fault("tug 1 at mesh 1;", 9);
        fault("tug 1 at 1;", 10);
        fault("tug 1 at 1 at 1;", 11);
        fault("tug 1 at 1 mesh;", 15);
        fault("tug 1 at 1 mesh at;", 16);
        fault("tug 1 at 1 mesh 1 1;", 18);
        fault("tug 1 at 1 mesh 1 tug 1 at 1 mesh 1;", 18);
        fault("street;", 6);
        fault("street teeth 1;", 7);
        fault("street 1;", 8);
        fault("street 1 1;", 9);
        fault("street 1 tug 1;", 9);
        fault("street 1 lacks 1;", 9);
        fault("street 1 teeth;", 14);
        fault("street 1 teeth teeth;", 15);
        fault("street 1 teeth 1 teeth 1;", 17);
        fault("price;", 5);
        fault("price 1 1;", 6);
        fault("price sleepers 1;", 6);
        fault("price teeth;", 11);
        fault("price teeth 1 1;", 14);
        fault("quota;", 5);
        fault("quota teeth 1;", 6);
        fault("quota 1;", 7);
        fault("quota 1 teeth;", 8);
        fault("wake;", 4);
        fault("wake wake;", 5);
        fault("wake 1 wake 1;", 7);
        fault("wake 1;;", 7);
        fault("wake -1;", 5);
        fault("wake 1.5;", 6);
    }

    private static void theFirstFaultCounts() {
        fault("wake 100 100", 5);
        fault("price teeth 31;wake 100;tugs", 12);
        fault("street 9 tooth 100", 7);
        fault("tug 1 at 8 net 10", 9);
    }

    private static void theLatestTellingCounts() {
        DreamNets x = new DreamNets();
        C.due("3 told twice", Check.tell(x, "wake 1;wake 2;quota 1 1;quota 1 2;price teeth 1;price teeth 3;"
                + "street 5 teeth 1;street 5 teeth 4;street 5 sleepers 1;street 5 sleepers 6;"), 0);
        C.due("3 wake", x.lawOf(0), 2);
        C.due("3 quota", x.ward(1, 0), 2);
        C.due("3 price", x.price(2, 1), 3);
        C.due("3 stock", x.street(5, 2), 4);
        C.due("3 sleepers", x.street(5, 5), 6);
    }

    // ---- 4, 5: "0 WAKE (0 to 99 of a hundred; 10 at first), 1 BREED (1 to 20; 8), 2 DRIFT (1 to 20; 4)"

    private static void lawsAtTheirEdges() {
        int[] least = {0, 1, 1};
        int[] most = {99, 20, 20};
        int[] first = {10, 8, 4};
        for (int law = 0; law < 3; law++) {
            DreamNets x = new DreamNets();
            int[] none = {least[law] - 1, most[law] + 1, -1, 100, LEAST, MOST};
            for (int v : none) {
                C.due("4 law " + law + " can't be " + v, x.set(law, v), -1);
                C.due("5 it stays", x.lawOf(law), first[law]);
            }
            C.due("4 the least", x.set(law, least[law]), first[law]);
            C.due("5 it", x.lawOf(law), least[law]);
            C.due("4 the most", x.set(law, most[law]), least[law]);
            C.due("5 it", x.lawOf(law), most[law]);
            C.due("4 the same", x.set(law, most[law]), most[law]);
            for (int other = 0; other < 3; other++) {
                C.due("5 others stay", x.lawOf(other), other == law ? most[law] : first[other]);
            }
        }
    }

    private static void noSuchLaw() {
        DreamNets x = new DreamNets();
        int[] none = {-1, 3, LEAST, MOST};
        for (int law : none) {
            C.due("4 no law " + law, x.set(law, 5), -1);
            C.due("5 no law " + law, x.lawOf(law), -1);
        }
    }

    // ---- 6: "PRICES (1 to 30) 9, 4, 2, 6, 12 at first"

    private static void pricesAtTheirEdges() {
        int[] first = {9, 4, 2, 6, 12};
        for (int sort = 0; sort < 5; sort++) {
            DreamNets x = new DreamNets();
            int[] none = {0, 31, -1, LEAST, MOST};
            for (int v : none) {
                C.due("6 no price " + v, x.price(sort, v), -1);
            }
            C.due("6 the least", x.price(sort, 1), first[sort]);
            C.due("6 the most", x.price(sort, 30), 1);
            C.due("6 the same", x.price(sort, 30), 30);
            for (int other = 0; other < 5; other++) {
                C.due("6 others stay", x.price(other, 30), other == sort ? 30 : first[other]);
            }
        }
    }

    private static void noSuchPrice() {
        DreamNets x = new DreamNets();
        int[] none = {-1, 5, LEAST, MOST};
        for (int sort : none) {
            C.due("6 no sort " + sort, x.price(sort, 5), -1);
        }
    }

    // ---- 7, 8: "each with a QUOTA (0 to 999; 999 at first) and how much was TAKEN in it (0 at first)"

    private static void quotasAtTheirEdges() {
        for (int ward = 0; ward < 4; ward++) {
            DreamNets x = new DreamNets();
            int[] none = {-1, 1000, LEAST, MOST};
            for (int v : none) {
                C.due("7 no quota " + v, x.quota(ward, v), -1);
                C.due("8 it stays", x.ward(ward, 0), 999);
            }
            C.due("7 the least", x.quota(ward, 0), 999);
            C.due("8 it", x.ward(ward, 0), 0);
            C.due("8 none taken", x.ward(ward, 1), 0);
            C.due("50 quota or more was taken there alone", x.many(3), 1);
            C.due("7 the most", x.quota(ward, 999), 0);
            C.due("8 it", x.ward(ward, 0), 999);
            C.due("50 no more", x.many(3), 0);
        }
    }

    private static void noSuchWard() {
        DreamNets x = new DreamNets();
        int[] none = {-1, 4, LEAST, MOST};
        for (int ward : none) {
            C.due("7 no ward " + ward, x.quota(ward, 5), -1);
            C.due("8 no ward " + ward, x.ward(ward, 0), -1);
        }
        int[] noWhat = {-1, 3, LEAST, MOST};
        for (int what : noWhat) {
            C.due("8 no what " + what, x.ward(0, what), -1);
        }
    }

    // "STREETS 0 and 1, 2 and 3, 4 and 5, 6 and 7"
    private static void wardsAreOfTwoStreets() {
        for (int street = 0; street < 8; street++) {
            DreamNets x = new DreamNets();
            x.boat(0, 0, street, 0);
            x.sleep(street, 1, 4);
            x.haul(0);
            x.sleep(street, 5, 9);
            for (int ward = 0; ward < 4; ward++) {
                boolean its = ward == street / 2;
                C.due("8 taken at " + street + " in " + ward, x.ward(ward, 1), its ? 1 : 0);
                C.due("8 sleepers at " + street + " in " + ward, x.ward(ward, 2), its ? 12 : 6);
            }
        }
        DreamNets y = new DreamNets();
        for (int street = 0; street < 8; street++) {
            y.sleep(street, 5, street < 4 ? 0 : 9);
        }
        C.due("8 none", y.ward(0, 2), 0);
        C.due("8 all", y.ward(3, 2), 18);
    }

    // a quota is looked at ahead of a haul alone
    private static void takenMayPassTheQuota() {
        DreamNets x = new DreamNets();
        x.boat(5, 1, 0, 0);
        x.sleep(0, 1, 99);
        x.quota(0, 1);
        C.due("19 a haul", x.haul(0), 99);
        C.due("8 taken", x.ward(0, 1), 99);
        C.due("19 none more", x.haul(0), -4);
        DreamNets y = new DreamNets();
        y.boat(5, 1, 0, 0);
        for (int i = 0; i < 11; i++) {
            y.sleep(0, 1, 99);
            C.due("19 haul " + i, y.haul(0), 99);
        }
        C.due("8 taken above 999", y.ward(0, 1), 1089);
        C.due("9 lacks above 999", y.street(0, 6), 1089);
        y.sleep(0, 1, 99);
        C.due("19 the most quota was passed", y.haul(0), -4);
    }

    // ---- 9, 10: "SLEEPERS (0 to 9; 3 at first), a STOCK (0 to 99; 0 at first) of each SORT, and what it LACKS"

    private static void stockAtItsEdges() {
        for (int street = 0; street < 8; street++) {
            DreamNets x = new DreamNets();
            for (int sort = 0; sort < 5; sort++) {
                int[] none = {-1, 100, LEAST, MOST};
                for (int v : none) {
                    C.due("10 no stock " + v, x.sleep(street, sort, v), -1);
                    C.due("9 it stays", x.street(street, sort), 0);
                }
                C.due("10 the most", x.sleep(street, sort, 99), 0);
                C.due("9 it", x.street(street, sort), 99);
                C.due("9 all", x.street(street, 7), 99);
                C.due("10 the least", x.sleep(street, sort, 0), 99);
                C.due("9 nothing", x.street(street, 7), 0);
            }
            for (int sort = 0; sort < 5; sort++) {
                x.sleep(street, sort, 99);
            }
            C.due("9 all the most", x.street(street, 7), 495);
            C.due("27 there alone", x.state(2), 495);
            C.due("27 the others have nothing", x.state(4), 255 - (1 << street));
        }
    }

    private static void sleepersAtTheirEdges() {
        for (int street = 0; street < 8; street++) {
            DreamNets x = new DreamNets();
            int[] none = {-1, 10, 99, LEAST, MOST};
            for (int v : none) {
                C.due("10 no sleepers " + v, x.sleep(street, 5, v), -1);
                C.due("9 they stay", x.street(street, 5), 3);
            }
            C.due("10 the most", x.sleep(street, 5, 9), 3);
            C.due("50 sleepers", x.many(2), 30);
            C.due("10 the least", x.sleep(street, 5, 0), 9);
            C.due("50 sleepers", x.many(2), 21);
            C.due("9 they aren't stock", x.street(street, 7), 0);
        }
    }

    private static void noSuchStreet() {
        DreamNets x = new DreamNets();
        int[] none = {-1, 8, LEAST, MOST};
        for (int street : none) {
            C.due("9 no street " + street, x.street(street, 0), -1);
            C.due("10 no street " + street, x.sleep(street, 0, 1), -1);
            C.due("10 no street " + street, x.sleep(street, 5, 1), -1);
        }
        int[] noWhat = {-1, 8, LEAST, MOST};
        for (int what : noWhat) {
            C.due("9 no what " + what, x.street(0, what), -1);
            C.due("10 no what " + what, x.sleep(0, what, 1), -1);
        }
        C.due("10 lacks can't be told", x.sleep(0, 6, 1), -1);
        C.due("10 nor all stock", x.sleep(0, 7, 1), -1);
    }

    // "how much was taken of it ever"
    private static void lacksIsAllThatWasEverTaken() {
        DreamNets x = new DreamNets();
        x.boat(5, 1, 6, 0);
        x.sleep(6, 1, 30);
        x.haul(0);
        x.land(0);
        x.bells(5);
        x.sleep(6, 1, 20);
        x.quota(3, 30);
        C.due("19 it may not", x.haul(0), -4);
        C.due("9 lacks", x.street(6, 6), 30);
        x.quota(3, 31);
        C.due("19 a haul", x.haul(0) >= 20 ? 1 : 0, 1);
        C.due("9 lacks all and both", x.street(6, 6), x.ward(3, 1));
        x.free(0, 1);
        C.due("9 lacks stays", x.street(6, 6), x.ward(3, 1));
        C.due("9 of another street", x.street(7, 6), 0);
    }
}
