final class RoomTest {
    static void promise01_aNewObjectIsEmpty() {
        Carcasswright shop = new Carcasswright();
        Check.noIndex("lengthOf(0)", () -> shop.lengthOf(0));
        Check.noIndex("told(0, w)", () -> shop.told(0, 'w'));
        Check.noIndex("from(0)", () -> shop.from(0));
        Check.noIndex("board(0, l)", () -> shop.board(0, 'l'));
        Check.noIndex("jobAt(0)", () -> shop.jobAt(0));
        Check.noElement("clash(0)", () -> shop.clash(0));
        Check.same("wipe", 0, shop.wipe());
        Check.same("boards", 0, shop.boards());
        Check.same("modules", 0, shop.modules());
        Check.same("came", 0, shop.area('c'));
        Check.same("two objects apart", 0, new Carcasswright().addWall('e', 500));
        Check.same("the other has none", 0, shop.addWall('e', 500));
    }

    static void promise02_addWall() {
        Carcasswright shop = new Carcasswright();
        Check.badArgument("no such way", () -> shop.addWall('x', 600));
        Check.badArgument("big letter", () -> shop.addWall('E', 600));
        Check.badArgument("too short", () -> shop.addWall('e', 499));
        Check.badArgument("too long", () -> shop.addWall('e', 10000));
        Check.badArgument("below 0", () -> shop.addWall('e', Integer.MIN_VALUE));
        Check.same("first", 0, shop.addWall('e', 500));
        Check.same("second", 1, shop.addWall('w', 9999));
        Check.same("third", 2, shop.addWall('n', 600));
        Check.same("fourth", 3, shop.addWall('s', 600));
        Check.same("fifth", 4, shop.addWall('e', 600));
        Check.same("sixth", 5, shop.addWall('e', 600));
        Check.badArgument("argument ahead of state", () -> shop.addWall('e', 499));
        Check.badState("a seventh", () -> shop.addWall('e', 600));
        Carcasswright other = Shop.one("b", 0);
        Check.badArgument("argument ahead of modules", () -> other.addWall('q', 600));
        Check.badState("modules are placed", () -> other.addWall('e', 600));
        Check.noIndex("nothing was added", () -> other.lengthOf(1));
    }

    static void promise03_close() {
        Carcasswright shop = Shop.room(3000, 2500, 3011, 2494);
        Check.same("share", 6, shop.close());
        Check.same("e", 3006, shop.lengthOf(0));
        Check.same("n", 2497, shop.lengthOf(1));
        Check.same("w", 3006, shop.lengthOf(2));
        Check.same("s", 2497, shop.lengthOf(3));
        Check.same("again, from what was measured", 6, shop.close());
        Check.same("fifth wall", 4, shop.addWall('e', 700));
        Check.same("it has its measured length", 700, shop.lengthOf(4));
        Check.same("the others keep theirs", 3006, shop.lengthOf(0));
        Check.same("with the fifth one", 230, shop.close());
        Check.same("689 over three, e", 2770, shop.lengthOf(0));
        Check.same("689 over three, w", 3241, shop.lengthOf(2));
        Check.same("689 over three, e again", 471, shop.lengthOf(4));
    }

    static void promise03_closeSharesByRisingNumbers() {
        Carcasswright shop = new Carcasswright();
        shop.addWall('w', 1000);
        shop.addWall('n', 800);
        shop.addWall('e', 500);
        shop.addWall('s', 803);
        shop.addWall('e', 507);
        Check.same("share", 3, shop.close());
        int[] due = {1003, 802, 498, 802, 505};
        for (int i = 0; i < due.length; i++) {
            Check.same("wall " + i, due[i], shop.lengthOf(i));
        }
        Carcasswright even = Shop.room(600, 700, 600, 700);
        Check.same("closed as it was measured", 0, even.close());
        Check.same("as measured", 600, even.lengthOf(0));
    }

    static void promise03_closeOfOneTooMuch() {
        Carcasswright shop = Shop.room(601, 700, 600, 701);
        Check.same("share", 1, shop.close());
        Check.same("e", 600, shop.lengthOf(0));
        Check.same("n", 701, shop.lengthOf(1));
        Check.same("w", 600, shop.lengthOf(2));
        Check.same("s", 701, shop.lengthOf(3));
    }

    static void promise03_closeIsRefused() {
        Check.unsupported("no walls", () -> new Carcasswright().close());
        Check.unsupported("three walls", () -> Shop.room(600, 600, 600).close());
        for (String ways : new String[] {"enwwne", "ewss", "nsnsww", "eensn"}) {
            Carcasswright other = new Carcasswright();
            for (char way : ways.toCharArray()) {
                other.addWall(way, 900);
            }
            Check.unsupported("ways " + ways, other::close);
        }
        Carcasswright shop = Shop.room(3000, 2500, 3011, 2494);
        shop.place(Shop.add(shop, "b"), 0, 700, 0);
        Check.unsupported("modules are placed", shop::close);
        Check.same("nothing changed", 3000, shop.lengthOf(0));
    }

    static void promise03_closeLeavesNoWallWithoutLength() {
        Carcasswright none = Shop.room(500, 600, 500, 600, 9999, 1000);
        // e has 8999 more than w: 2250, 2250, 2250 and 2249 of four walls
        Check.unsupported("less than nothing", none::close);
        Check.same("nothing changed", 500, none.lengthOf(0));
        Check.same("nor there", 1000, none.lengthOf(5));
        Check.unsupported("1500 over three, nothing left of 500", () -> thin(500, 500, 1500).close());
        Carcasswright one = thin(500, 500, 1495);
        Check.same("1495 over three", 499, one.close());
        Check.same("1 is left", 1, one.lengthOf(0));
    }

    /** Two walls to the e and one back, so that what e has more is shared by three. */
    private static Carcasswright thin(int first, int second, int third) {
        Carcasswright shop = new Carcasswright();
        shop.addWall('e', first);
        shop.addWall('n', 700);
        shop.addWall('w', second);
        shop.addWall('s', 700);
        shop.addWall('e', third);
        return shop;
    }

    static void promise04_lengthOf() {
        Carcasswright shop = Shop.room(700, 801);
        Check.same("wall 0", 700, shop.lengthOf(0));
        Check.same("wall 1", 801, shop.lengthOf(1));
        Check.noIndex("wall 2", () -> shop.lengthOf(2));
        Check.noIndex("wall -1", () -> shop.lengthOf(-1));
        Check.noIndex("wall 6", () -> Shop.room(600, 600, 600, 600, 600, 600).lengthOf(6));
        Check.noIndex("least", () -> shop.lengthOf(Integer.MIN_VALUE));
    }

    static void promise05_isClosedRoom() {
        Check.same("without walls", false, new Carcasswright().isClosedRoom());
        Check.same("one wall", false, Shop.room(600).isClosedRoom());
        Check.same("two walls there and back", true, Shop.room(600, 600, 600, 600).isClosedRoom());
        Check.same("n and s differ", false, Shop.room(600, 601, 600, 600).isClosedRoom());
        Check.same("e and w differ", false, Shop.room(601, 600, 600, 600).isClosedRoom());
        Carcasswright pair = new Carcasswright();
        pair.addWall('n', 700);
        pair.addWall('s', 700);
        Check.same("n and back", true, pair.isClosedRoom());
        Carcasswright shop = Shop.room(3000, 2500, 3011, 2494);
        shop.close();
        Check.same("closed", true, shop.isClosedRoom());
        shop.addWall('e', 700);
        Check.same("a wall came later", false, shop.isClosedRoom());
    }

    static void promise06_setOff() {
        Carcasswright shop = Shop.room(700, 801);
        Check.same("before", 0, shop.setOff(1, 60, 0));
        Check.same("of this wall", 0, shop.setOff(0, 7, 60));
        Check.same("then", 6000, shop.setOff(1, 3, 4));
        Check.same("last", 760, shop.setOff(0, 0, 0));
        Check.noIndex("no such wall", () -> shop.setOff(2, 0, 0));
        Check.noIndex("wall ahead of number", () -> shop.setOff(-1, 61, 0));
        Check.badArgument("left", () -> shop.setOff(1, 61, 0));
        Check.badArgument("left below", () -> shop.setOff(1, -1, 0));
        Check.badArgument("right", () -> shop.setOff(1, 0, 61));
        Check.badArgument("right below", () -> shop.setOff(1, 0, -1));
        Check.same("nothing changed", 304, shop.setOff(1, 0, 0));
    }

    static void promise07_obstacle() {
        Carcasswright shop = Shop.room(700, 801);
        Check.same("widest", 0, shop.obstacle(0, 0, 9999, 0, 3000));
        Check.same("least", 1, shop.obstacle(1, 9998, 9999, 2999, 3000));
        Check.noIndex("wall", () -> shop.obstacle(2, 0, 9, 0, 9));
        Check.noIndex("wall first", () -> shop.obstacle(-1, 9, 9, 9, 9));
        Check.badArgument("from below 0", () -> shop.obstacle(0, -1, 9, 0, 9));
        Check.badArgument("from too far", () -> shop.obstacle(0, 9999, 10000, 0, 9));
        Check.badArgument("to not above", () -> shop.obstacle(0, 9, 9, 0, 9));
        Check.badArgument("to too far", () -> shop.obstacle(0, 9, 10000, 0, 9));
        Check.badArgument("low below 0", () -> shop.obstacle(0, 0, 9, -1, 9));
        Check.badArgument("low too high", () -> shop.obstacle(0, 0, 9, 3000, 3001));
        Check.badArgument("high not above", () -> shop.obstacle(0, 0, 9, 7, 7));
        Check.badArgument("high too high", () -> shop.obstacle(0, 0, 9, 7, 3001));
        for (int i = 2; i < 8; i++) {
            Check.same("obstacle", i, shop.obstacle(i % 2, 0, 9, 0, 9));
        }
        Check.badArgument("argument first", () -> shop.obstacle(0, 0, 0, 0, 9));
        Check.badState("a ninth", () -> shop.obstacle(0, 0, 9, 0, 9));
    }

    static void promise07_modulesStay() {
        Carcasswright shop = Shop.one("b", 0);
        Check.same("over the module", 0, shop.obstacle(0, 0, 9999, 0, 3000));
        Check.same("it stays", 0, shop.from(0));
        Check.unsupported("but cannot be shifted", () -> shop.shift(0, 0));
        Check.same("cause", 'p', shop.clash(0));
        Check.same("sound", true, shop.isSound());
    }

    private RoomTest() {
    }
}
