/** All that there is place for: the last one of each is taken and answers, one more is refused and changes nothing. */
final class FullTest {
    static void promise02_sixWalls() {
        Carcasswright shop = new Carcasswright();
        String ways = "enwsen";
        for (int i = 0; i < 6; i++) {
            Check.same("number", i, shop.addWall(ways.charAt(i), 500 + i));
        }
        for (int i = 0; i < 6; i++) {
            Check.same("length of wall " + i, 500 + i, shop.lengthOf(i));
        }
        Refusals.due(() -> Shop.room(501, 502, 503, 504, 505, 506), Calls.BAD_STATE, "addWall", 'e', 500);
        Refusals.due(Shop::full, Calls.BAD_STATE, "addWall", 'e', 500);
        Refusals.due(Shop::standard, Calls.BAD_STATE, "addWall", 'e', 500);
    }

    static void promise02_sixWallsStayWhenClosed() {
        Carcasswright shop = Shop.room(700, 800, 900, 900, 600, 500);
        shop.close();
        Check.badState("a seventh", () -> shop.addWall('s', 500));
        Check.same("still closed", true, shop.isClosedRoom());
    }

    static void promise07_eightObstacles() {
        Carcasswright shop = Shop.room(5000);
        Shop.add(shop, "b");
        for (int i = 0; i < 8; i++) {
            Check.same("number", i, shop.obstacle(0, 700 * i, 700 * i + 1, 0, 1));
        }
        Check.unsupported("the last one is in the way", () -> shop.place(0, 0, 4350, 0));
        Refusals.causes(shop, 'p', 7, 'h', 0);
        Refusals.due(Shop::full, Calls.BAD_STATE, "obstacle", 0, 0, 1, 0, 1);
        Refusals.due(Shop::full, Calls.BAD_STATE, "obstacle", 5, 9998, 9999, 2999, 3000);
    }

    static void promise08_thirtySigns() {
        Refusals.due(Shop::full, Calls.BAD_STATE, "type", 'w');
        Refusals.due(Shop::full, Calls.BAD_STATE, "type", (char) 0);
        Carcasswright shop = Shop.full();
        Check.noElement("30 signs without a fault", shop::fault);
        Check.noElement("of no kind", shop::faultKind);
        Check.same("all are wiped", 30, shop.wipe());
        Check.same("there is place again", 1, shop.type('b'));
    }

    static void promise10_faultsOfThirtySigns() {
        String begin = "bw0600d1s1r1w0600d1s1r1w0600";
        String[] ends = {"d1", "ww", "dx", "xx", "1d", "d3", "wx", "d9"};
        Object[] places = {Calls.NO_ELEMENT, 29, 29, 28, 28, 30, 29, 30};
        Object[] letters = {Calls.NO_ELEMENT, 'n', 'n', 'i', 'i', 'f', 'n', 'f'};
        for (int i = 0; i < ends.length; i++) {
            Carcasswright shop = new Carcasswright();
            Shop.tell(shop, begin + ends[i]);
            Calls.due(places[i], shop, "fault");
            Calls.due(letters[i], shop, "faultKind");
            Check.badState("a sign behind " + ends[i], () -> shop.type('1'));
        }
        Carcasswright open = new Carcasswright();
        Shop.tell(open, "bw600d1s1r1w0600d1s1r1w0600d1s");
        Check.same("a number is missing behind the last sign", 30, open.fault());
        Check.same("its first digit", 'n', open.faultKind());
    }

    static void promise12_thirtySignsAreAType() {
        Carcasswright shop = new Carcasswright();
        Check.same("number", 0, Shop.add(shop, "bw0600d1s1r1w0600d1s1r1w0601d2"));
        Check.same("width", 601, shop.told(0, 'w'));
        Check.same("doors", 2, shop.told(0, 'd'));
        Check.same("shelves", 1, shop.told(0, 's'));
        Check.same("drawers", 1, shop.told(0, 'r'));
        Check.same("the text is empty", 0, shop.wipe());
    }

    static void promise12_eightTypes() {
        Refusals.due(Shop::full, Calls.BAD_STATE, "addType");
        Carcasswright shop = Shop.full();
        int[] widths = {150, 150, 150, 150, 150, 150, 150, 151};
        for (int i = 0; i < 8; i++) {
            Check.same("width of type " + i, widths[i], shop.told(i, 'w'));
        }
        Shop.tell(shop, "@7");
        Check.noElement("the last one can be taken over", shop::fault);
        Shop.tell(shop, "@8");
        Check.same("there is no type 8", 1, shop.fault());
        Check.same("number of a type", 't', shop.faultKind());
    }

    static void promise14_sixteenModules() {
        Refusals.due(Shop::full, Calls.BAD_STATE, "place", 0, 0, 3000, 0);
        Refusals.due(Shop::full, Calls.BAD_STATE, "place", 0, 0, 0, 0);
        Carcasswright shop = Shop.full();
        for (int i = 0; i < 16; i++) {
            Check.same("place of module " + i, 150 * i, shop.from(i));
        }
        Check.same("what is free", 9999 - 16 * 150, shop.free(0, false));
        Check.same("in one row", 9999 - 16 * 150, shop.widest(0, false));
        Check.same("the last one can be shifted", 2250, shop.shift(15, 9849));
        Check.same("what is free stays", 9999 - 16 * 150, shop.free(0, false));
        Check.same("less in one row", 9999 - 16 * 150, shop.widest(0, false));
        Check.unsupported("into its neighbour", () -> shop.shift(15, 2101));
        Refusals.causes(shop, 'o', 14, 'h', 0);
        Check.same("the last one can be changed", 0, shop.change(15, 3));
    }

    static void promise31_sixtyBoards() {
        Refusals.due(Shop::full, Calls.BAD_STATE, "addBoards", 0, 18, 300, 300, 1);
        Refusals.due(Shop::full, Calls.BAD_STATE, "addBoards", 2, 8, 2800, 2100, 20);
        Refusals.due(FullTest::fiftyBoards, Calls.BAD_STATE, "addBoards", 0, 18, 300, 300, 11);
        Refusals.due(FullTest::fiftyBoards, Calls.BAD_STATE, "addBoards", 0, 18, 300, 300, 20);
        Carcasswright shop = fiftyBoards();
        Check.same("just as many as there is place for", 60, shop.addBoards(1, 8, 301, 302, 10));
        Check.same("the last one", 301, shop.board(59, 'l'));
        Check.same("the first of them", 301, shop.board(50, 'l'));
        Check.same("the one ahead", 300, shop.board(49, 'l'));
    }

    private static Carcasswright fiftyBoards() {
        Carcasswright shop = Shop.one("bw400", 0);
        shop.addBoards(0, 18, 2800, 2070, 20);
        shop.addBoards(0, 8, 2800, 2070, 10);
        shop.addBoards(0, 18, 300, 300, 20);
        return shop;
    }

    /** Sixty boards of which two are opened: two offcuts have place, of the four that are left. */
    static void promise36_offcutsOfAFullStock() {
        Carcasswright shop = fiftyBoards();
        shop.addBoards(0, 18, 300, 300, 10);
        Check.same("opened", 2, shop.cut(0));
        Check.same("full again", 60, shop.boards());
        Check.same("two offcuts", 2, shop.offcuts());
        Check.badState("no place for a board", () -> shop.addBoards(0, 18, 300, 300, 1));
        Carcasswright one = fiftyBoards();
        one.addBoards(0, 18, 300, 300, 9);
        one.cut(0);
        Check.same("one more of 59", 3, one.offcuts());
        Check.same("full as well", 60, one.boards());
        Carcasswright two = fiftyBoards();
        two.addBoards(0, 18, 300, 300, 8);
        two.cut(0);
        Check.same("all of 58", 4, two.offcuts());
        Check.same("just full", 60, two.boards());
        Carcasswright more = fiftyBoards();
        more.addBoards(0, 18, 300, 300, 7);
        more.cut(0);
        Check.same("all of 57", 4, more.offcuts());
        Check.same("one place is left", 59, more.boards());
    }

    static void promise44_sixJobs() {
        Refusals.due(Shop::full, Calls.BAD_STATE, "job", 0, 1, 0);
        Refusals.due(Shop::full, Calls.BAD_STATE, "job", 2, 99, 999);
        Carcasswright shop = new Carcasswright();
        for (int i = 0; i < 6; i++) {
            Check.same("number", i, shop.job(0, 1, 0));
            Check.same("each one at its time", i, shop.jobAt(i));
        }
        Check.noIndex("no seventh time", () -> shop.jobAt(6));
        Check.same("3 and 4 and so on to 8", 33, shop.lateness());
    }

    private FullTest() {
    }
}
