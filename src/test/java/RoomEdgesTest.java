/** The edges of what the document says of rooms, sentence by sentence. */
final class RoomEdgesTest {
    private static Carcasswright walls(Object... waysAndLengths) {
        Carcasswright shop = new Carcasswright();
        for (int i = 0; i < waysAndLengths.length; i += 2) {
            shop.addWall((Character) waysAndLengths[i], (Integer) waysAndLengths[i + 1]);
        }
        return shop;
    }

    private static void lengths(Carcasswright shop, int... due) {
        for (int i = 0; i < due.length; i++) {
            Check.same("length of wall " + i, due[i], shop.lengthOf(i));
        }
        Check.noIndex("no more walls", () -> shop.lengthOf(due.length));
    }

    static void promise03_nothingToShare() {
        Carcasswright shop = Shop.room(600, 700, 600, 700);
        Check.same("closed as it is measured", true, shop.isClosedRoom());
        Check.same("no share", 0, shop.close());
        lengths(shop, 600, 700, 600, 700);
    }

    static void promise03_oneToShare() {
        Carcasswright more = walls('e', 1000, 'e', 1000, 'e', 1000, 'w', 2999, 'n', 500, 's', 500);
        Check.same("the first wall takes it", 1, more.close());
        lengths(more, 999, 1000, 1000, 2999, 500, 500);
        Carcasswright less = walls('w', 3001, 'e', 1000, 'e', 1000, 'e', 1000, 's', 500, 'n', 500);
        Check.same("also if it is one to the w", 1, less.close());
        lengths(less, 3000, 1000, 1000, 1000, 500, 500);
        Carcasswright north = walls('s', 700, 'n', 701, 'e', 500, 'w', 500);
        Check.same("or to the s", 1, north.close());
        lengths(north, 701, 701, 500, 500);
    }

    /** 7 of four walls: 2, 2, 2 and 1; 5: 2, 1, 1 and 1; 4: 1 each; 8: 2 each. */
    static void promise03_sharesAreRoundedUp() {
        Carcasswright seven = walls('e', 1000, 'e', 1000, 'e', 1000, 'w', 2993, 'n', 500, 's', 500);
        Check.same("of 7", 2, seven.close());
        lengths(seven, 998, 998, 998, 2994, 500, 500);
        Carcasswright less = walls('e', 1000, 'e', 1000, 'e', 1000, 'w', 3007, 'n', 500, 's', 500);
        Check.same("of 7 too few", 2, less.close());
        lengths(less, 1002, 1002, 1002, 3006, 500, 500);
        Carcasswright five = walls('w', 2995, 'e', 1000, 'e', 1000, 'e', 1000, 'n', 500, 's', 500);
        Check.same("of 5", 2, five.close());
        lengths(five, 2997, 999, 999, 999, 500, 500);
        Carcasswright four = walls('e', 1000, 'e', 1000, 'w', 2996, 'e', 1000, 'n', 500, 's', 500);
        Check.same("of 4", 1, four.close());
        lengths(four, 999, 999, 2997, 999, 500, 500);
        Carcasswright eight = walls('e', 1000, 'e', 1000, 'w', 2992, 'e', 1000, 'n', 500, 's', 500);
        Check.same("of 8", 2, eight.close());
        lengths(eight, 998, 998, 2994, 998, 500, 500);
    }

    static void promise03_greatestShareOfAllFourWays() {
        Check.same("e and w", 5, Shop.room(610, 700, 600, 703).close());
        Check.same("n and s", 8, Shop.room(610, 700, 600, 715).close());
        Check.same("only e and w", 50, Shop.room(600, 700, 700, 700).close());
        Check.same("only n and s", 50, Shop.room(600, 700, 600, 800).close());
        Check.same("all there is", 4750, Shop.room(9999, 9999, 500, 500).close());
    }

    static void promise03_fourWallsOfFourWays() {
        for (String ways : new String[] {"", "e", "ew", "enw", "ews"}) {
            Refusals.due(() -> Shop.ways(ways, 900), Calls.UNSUPPORTED, "close");
        }
        for (String ways : new String[] {"ennww", "eenwn", "wnsns", "esews", "enwwwn", "nswsns", "eweeww",
            "nsns", "ewew", "nsnsns", "ewewew", "nnss", "wwee"}) {
            Refusals.due(() -> Shop.ways(ways, 900), Calls.UNSUPPORTED, "close");
        }
        for (String ways : new String[] {"enws", "snwe", "ewns", "nnssew", "eeewns"}) {
            Check.same(ways, false, Calls.isThrown(Calls.answer(Shop.ways(ways, 900), "close")));
        }
    }

    static void promise03_notWithModules() {
        Refusals.due(Shop::standard, Calls.UNSUPPORTED, "close");
        Carcasswright shop = Shop.room(3000, 2500, 3011, 2494);
        Shop.add(shop, "b");
        Check.same("types are no modules", 6, shop.close());
    }

    private static Carcasswright thin(int third) {
        return walls('n', 500, 'e', 700, 's', 500, 'w', 700, 'n', third);
    }

    /** n has 1500 more than s: 500 of each of three walls. */
    static void promise03_aWallWouldHaveNoLength() {
        Refusals.due(() -> thin(1500), Calls.UNSUPPORTED, "close");
        Refusals.due(() -> thin(1501), Calls.UNSUPPORTED, "close");
        Refusals.due(() -> thin(1498), Calls.UNSUPPORTED, "close");
        Carcasswright shop = thin(1497);
        Check.same("499 of each", 499, shop.close());
        lengths(shop, 1, 700, 999, 700, 998);
        Refusals.due(() -> walls('e', 500, 'n', 600, 'w', 500, 's', 600, 'e', 9999, 'n', 1000), Calls.UNSUPPORTED,
            "close");
    }

    static void promise03_byTheLengthsAsMeasured() {
        Carcasswright shop = Shop.room(3000, 2500, 3011, 2494);
        for (int i = 0; i < 3; i++) {
            Check.same("each time from what was measured", 6, shop.close());
            lengths(shop, 3006, 2497, 3006, 2497);
        }
        shop.addWall('e', 500);
        lengths(shop, 3006, 2497, 3006, 2497, 500);
        // e was measured 3500, w 3011: 489 are shared by three, 163 each
        Check.same("with the new wall", 163, shop.close());
        lengths(shop, 2837, 2497, 3174, 2497, 337);
    }

    static void promise04_asMeasuredUntilClosed() {
        Carcasswright shop = Shop.room(601, 700, 600, 700);
        lengths(shop, 601, 700, 600, 700);
        shop.close();
        lengths(shop, 600, 700, 600, 700);
    }

    static void promise05_leadsBackToItsBeginning() {
        Check.same("to the e and back", true, Shop.ways("ew", 500).isClosedRoom());
        Check.same("twice to the e", false, Shop.ways("ee", 500).isClosedRoom());
        Check.same("beside it", false, Shop.ways("en", 500).isClosedRoom());
        Check.same("three walls", false, Shop.ways("ewn", 500).isClosedRoom());
        Check.same("in any order", true, Shop.ways("newwse", 500).isClosedRoom());
        Check.same("one short", false, walls('e', 500, 'w', 501).isClosedRoom());
        Check.same("one long", false, walls('s', 501, 'n', 500).isClosedRoom());
        Check.same("two together", true, walls('e', 500, 'w', 1001, 'e', 501).isClosedRoom());
        // 10 to the e and 10 to the n are not nothing
        Check.same("both ways", false, walls('e', 510, 'w', 500, 'n', 500, 's', 510).isClosedRoom());
    }

    static void promise06_beforeOfEachEnd() {
        Carcasswright shop = Shop.room(700, 800, 700, 800, 500, 500);
        for (int wall = 0; wall < 6; wall++) {
            Check.same("0 at first", 0, shop.setOff(wall, 10 * wall, 60 - 10 * wall));
        }
        for (int wall = 0; wall < 6; wall++) {
            Check.same("of each wall", 1000 * wall + 60 - 10 * wall, shop.setOff(wall, 60, 60));
        }
        Check.same("the greatest", 6060, shop.setOff(5, 0, 0));
        Check.same("the least", 0, shop.setOff(5, 0, 60));
        Check.same("the end only", 60, shop.setOff(5, 60, 0));
        Check.same("the beginning only", 6000, shop.setOff(5, 0, 0));
        Check.same("lengths stay", 500, shop.lengthOf(5));
    }

    static void promise06_modulesStay() {
        Carcasswright shop = Shop.room(600);
        Shop.add(shop, "b");
        shop.place(0, 0, 0, 0);
        Check.same("off though there is a module", 0, shop.setOff(0, 60, 60));
        Check.same("which stays", 0, shop.from(0));
        Check.unsupported("but cannot come there again", () -> shop.shift(0, 0));
        Refusals.causes(shop, 'e', 60);
    }

    static void promise07_beyondTheWall() {
        Carcasswright shop = Shop.room(500);
        Shop.add(shop, "bw500");
        Check.same("behind its end", 0, shop.obstacle(0, 500, 9999, 0, 3000));
        Check.same("which is in nothing's way", 0, shop.place(0, 0, 0, 0));
        Check.same("the same again", 1, shop.obstacle(0, 500, 9999, 0, 3000));
    }

    private RoomEdgesTest() {
    }
}
