/** The edges of what the document says of jobs and figures, sentence by sentence. */
final class JobsEdgesTest {
    /** Colour, hours and due hour of each job. */
    private static Carcasswright jobs(int setup, int... told) {
        Carcasswright shop = new Carcasswright();
        shop.setSetup(setup);
        for (int i = 0; i < told.length; i += 3) {
            Check.same("number", i / 3, shop.job(told[i], told[i + 1], told[i + 2]));
        }
        return shop;
    }

    private static void late(Carcasswright shop, int lateness, int... order) {
        Check.same("lateness", lateness, shop.lateness());
        for (int i = 0; i < order.length; i++) {
            Check.same("job at " + i, order[i], shop.jobAt(i));
        }
        Calls.due(Calls.NO_INDEX, shop, "jobAt", order.length);
    }

    static void promise46_lateByOne() {
        late(jobs(2), 0);
        late(jobs(2, 0, 5, 7), 0, 0);
        late(jobs(2, 0, 5, 6), 1, 0);
        late(jobs(0, 0, 5, 5), 0, 0);
        late(jobs(0, 0, 5, 4), 1, 0);
        late(jobs(99, 0, 99, 999), 0, 0);
        late(jobs(99, 0, 99, 0), 198, 0);
        late(jobs(0, 2, 1, 0), 1, 0);
        late(jobs(0, 2, 1, 1), 0, 0);
    }

    static void promise46_setupsOfColours() {
        // of one colour there is one setup, at the beginning
        late(jobs(2, 1, 5, 7, 1, 5, 12), 0, 0, 1);
        late(jobs(2, 1, 5, 7, 1, 5, 11), 1, 0, 1);
        late(jobs(2, 1, 5, 7, 0, 5, 14), 0, 0, 1);
        late(jobs(2, 1, 5, 7, 0, 5, 13), 1, 0, 1);
        // the colour of the one ahead counts, not that of one further ahead
        late(jobs(2, 0, 5, 7, 1, 5, 14, 0, 5, 21), 0, 0, 1, 2);
        late(jobs(2, 0, 5, 7, 1, 5, 14, 0, 5, 20), 1, 0, 1, 2);
        // of the colour 0 the first one takes the setup as well
        late(jobs(3, 0, 1, 0), 4, 0);
    }

    static void promise46_sumOfAll() {
        // ends at 3, 4 and 5, each due by 0
        late(jobs(2, 0, 1, 0, 0, 1, 0, 0, 1, 0), 12, 0, 1, 2);
        // what ends ahead of its hour does not make up for others
        late(jobs(2, 0, 1, 999, 0, 1, 0), 3, 1, 0);
        late(jobs(99, 0, 99, 0, 1, 99, 0, 2, 99, 0, 0, 99, 0, 1, 99, 0, 2, 99, 0),
            198 + 297 + 495 + 594 + 792 + 891, 0, 3, 1, 4, 2, 5);
    }

    static void promise47_theFirstOrderOfSeveral() {
        late(jobs(2, 0, 5, 999, 1, 5, 999, 0, 5, 999), 0, 0, 1, 2);
        // 0 must not be first: of 1 and 2 the lower one is
        late(jobs(0, 0, 10, 999, 0, 1, 2, 0, 1, 2), 0, 1, 2, 0);
        // as late with 0 ahead as with 1 ahead
        late(jobs(0, 0, 5, 0, 0, 5, 0), 15, 0, 1);
        late(jobs(0, 0, 5, 0, 0, 5, 5), 10, 0, 1);
        late(jobs(0, 0, 5, 5, 0, 5, 0), 10, 0, 1);
        late(jobs(0, 0, 6, 0, 0, 5, 0), 16, 1, 0);
        late(jobs(0, 0, 5, 0, 0, 6, 0), 16, 0, 1);
        // six of which the last one must be first
        late(jobs(0, 0, 2, 999, 0, 2, 999, 0, 2, 999, 0, 2, 999, 0, 2, 999, 0, 2, 2), 0, 5, 0, 1, 2, 3, 4);
        late(jobs(0, 0, 1, 6, 0, 1, 5, 0, 1, 4, 0, 1, 3, 0, 1, 2, 0, 1, 1), 0, 5, 4, 3, 2, 1, 0);
    }

    static void promise47_ordersChangeWithJobsAndSetup() {
        Carcasswright shop = jobs(2, 1, 5, 7, 0, 3, 4);
        // 0 first: 7, and 12 by 4; 1 first: 5 by 4, and 12 by 7
        late(shop, 6, 1, 0);
        shop.job(1, 1, 8);
        // 1 first: 5 by 4, then 12 by 7 and 13 by 8, or rather 8 by 8 and 13 by 7
        late(shop, 7, 1, 2, 0);
        // 1 first, then 8 by 7 and 9 by 8, or 9 by 7; 2 and 1 first are as late
        shop.setSetup(0);
        late(shop, 2, 1, 0, 2);
    }

    static void promise45_setupBefore() {
        Carcasswright shop = new Carcasswright();
        int before = 2;
        for (int hours : new int[] {0, 99, 1, 98, 0}) {
            Check.same("before", before, shop.setSetup(hours));
            before = hours;
        }
        Calls.due(Calls.BAD_ARGUMENT, shop, "setSetup", 100);
        Calls.due(Calls.BAD_ARGUMENT, shop, "setSetup", -1);
        Check.same("stays", 0, shop.setSetup(5));
    }

    static void promise50_noneToAll() {
        Carcasswright shop = Shop.one("b", 0);
        Check.same("none", 0.0f, shop.cutShare());
        shop.addBoards(0, 18, 2800, 2070, 1);
        shop.addBoards(0, 8, 716, 596, 1);
        shop.cut(0);
        Check.same("all", 1.0f, shop.cutShare());
        shop.place(0, 0, 600, 0);
        shop.place(0, 0, 1200, 0);
        Check.same("5 of 15", 5.0f / 15.0f, shop.cutShare());
        shop.lose(0, 0);
        shop.lose(0, 0);
        shop.lose(0, 2);
        shop.lose(0, 3);
        Check.same("1 of 15", 1.0f / 15.0f, shop.cutShare());
        shop.lose(0, 4);
        Check.same("none again", 0.0f, shop.cutShare());
    }

    static void promise51_narrowestAndWidest() {
        Carcasswright shop = Shop.room(9999);
        Shop.add(shop, "bw150");
        Shop.add(shop, "bw1200");
        shop.place(0, 0, 0, 0);
        Check.same("least", 150.0, shop.meanWidth());
        shop.change(0, 1);
        Check.same("greatest", 1200.0, shop.meanWidth());
        shop.place(0, 0, 1200, 0);
        Check.same("of both", 675.0, shop.meanWidth());
        shop.place(0, 0, 1350, 0);
        Check.same("of three", 500.0, shop.meanWidth());
        for (int i = 3; i < 7; i++) {
            shop.place(0, 0, 1350 + 150 * (i - 2), 0);
        }
        Check.same("of seven", 2100.0 / 7.0, shop.meanWidth());
        shop.place(1, 0, 5000, 0);
        Check.same("of eight", 412.5, shop.meanWidth());
    }

    static void promise49_allThatCame() {
        Carcasswright shop = new Carcasswright();
        shop.addBoards(0, 8, 300, 300, 1);
        Check.same("the smallest one", 90000L, shop.area('c'));
        Calls.due(Calls.BAD_STATE, Shop.full(), "addBoards", 0, 18, 300, 300, 1);
        shop.addBoards(2, 18, 2800, 2100, 20);
        Check.same("and the largest ones", 90000L + 20 * 5880000L, shop.area('c'));
        Check.same("all in stock", 90000L + 20 * 5880000L, shop.area('s'));
        Check.same("no parts", 0L, shop.area('p'));
        Check.same("no dust", 0L, shop.area('d'));
        Check.same("no scrap", 0L, shop.area('x'));
        Check.same("sound", true, shop.isSound());
    }

    static void promise48_placedOnly() {
        Carcasswright shop = Shop.standard();
        Check.same("three", 3, shop.modules());
        Calls.due(Calls.UNSUPPORTED, shop, "place", 0, 0, 1000, 0);
        Calls.due(0, shop, "change", 2, 2);
        Calls.due(1000, shop, "shift", 0, 1001);
        Check.same("still three", 3, shop.modules());
        Check.same("sixteen", 16, Shop.full().modules());
    }

    private JobsEdgesTest() {
    }
}
