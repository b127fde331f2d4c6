/** All that an object answers of itself, as a text; two texts are alike if nothing that can be asked differs. */
final class Snapshot {
    private Snapshot() {
    }

    /** What stands now; some 360 calls, none of which leaves anything changed. */
    static String of(DreamNets x) {
        StringBuilder all = new StringBuilder();
        for (int law = 0; law < 3; law++) {
            add(all, "law", x.lawOf(law));
        }
        for (int sort = 0; sort < 5; sort++) {
            int was = x.price(sort, 1);
            x.price(sort, was);
            add(all, "price", was);
        }
        for (int ward = 0; ward < 4; ward++) {
            for (int what = 0; what < 3; what++) {
                add(all, "ward", x.ward(ward, what));
            }
        }
        for (int street = 0; street < 8; street++) {
            for (int what = 0; what < 7; what++) {
                add(all, "street", x.street(street, what));
            }
        }
        for (int boat = 0; boat < x.many(0); boat++) {
            for (int what = 0; what < 10; what++) {
                add(all, "of", x.of(boat, what));
            }
        }
        add(all, "bell", x.state(0));
        add(all, "coins", x.state(1));
        int z = x.seed(0);
        x.seed(z);
        add(all, "z", z);
        things(x, all);
        return all.toString();
    }

    private static void things(DreamNets x, StringBuilder all) {
        add(all, "bytes", x.many(5));
        int rows = x.many(4);
        add(all, "rows", rows);
        for (int i = 0; i < rows; i++) {
            for (int what = 0; what < 3; what++) {
                add(all, "row", x.row(i, what));
            }
        }
        for (int sheet = 0; sheet < 4; sheet++) {
            int sort = 0;
            while (sort < 3 && x.minds(sheet, -1, 0, 0) != -11 && x.item(sheet, sort, -1) == -13) {
                sort++;
            }
            add(all, "sheet", x.item(sheet, sort, -1));
            add(all, "sort", sort);
            // how many items: the places that refuse nothing but -12
            for (int i = 0; i < 8; i++) {
                add(all, "item", x.item(sheet, sort, i));
            }
        }
        for (int shelf = 0; shelf < 4; shelf++) {
            int[] as = {0, 10, 11, 12, 13};
            for (int kind : as) {
                add(all, "shelf", x.taken(shelf, kind));
            }
        }
        int bodies = x.many(6);
        add(all, "bodies", bodies);
        for (int i = 0; i < bodies; i++) {
            add(all, "body", x.trace(i));
        }
    }

    private static void add(StringBuilder all, String what, long answer) {
        all.append(what).append('=').append(answer).append(' ');
    }

    /** What stands now, what the tape tells, and what is kept. */
    static String inFull(DreamNets x) {
        String now = of(x);
        int kept = x.again();
        String then = "again=" + kept + " bells=" + x.state(0) + " stock=" + x.state(2) + " boats=" + x.many(0)
                + " coins=" + x.state(1) + " held=" + x.state(3);
        int told = x.harbour();
        return now + then + " told=" + told + " wake=" + x.lawOf(0) + " stock=" + x.state(2) + " rows=" + x.many(4);
    }
}
