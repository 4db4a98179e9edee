import java.util.function.Supplier;

/** The edges of what the document says of layout and corners, sentence by sentence. */
final class LayoutEdgesTest {
    private static Object[] causes(Object... lettersAndNumbers) {
        return lettersAndNumbers;
    }

    /** Refused with these causes, and nothing else is changed. */
    private static void refused(Supplier<Carcasswright> make, Object[] causes, String name, Object... arguments) {
        Refusals.dueWithCauses(make, causes, name, arguments);
    }

    private static void taken(Supplier<Carcasswright> make, Object due, String name, Object... arguments) {
        Calls.due(due, make.get(), name, arguments);
    }

    private static Carcasswright wallOf(int length, int left, int right) {
        Carcasswright shop = Shop.room(length, 5000);
        shop.setOff(0, left, right);
        Shop.add(shop, "b");
        Shop.add(shop, "bw150");
        return shop;
    }

    static void promise14_beyondTheWallByOne() {
        Supplier<Carcasswright> plain = () -> wallOf(700, 0, 0);
        taken(plain, 0, "place", 0, 0, 0, 0);
        taken(plain, 0, "place", 0, 0, 100, 0);
        refused(plain, causes('e', 1), "place", 0, 0, 101, 0);
        refused(plain, causes('e', 9899), "place", 0, 0, 9999, 0);
        Supplier<Carcasswright> off = () -> wallOf(700, 30, 60);
        refused(off, causes('e', 1), "place", 0, 0, 29, 0);
        taken(off, 0, "place", 0, 0, 30, 0);
        taken(off, 0, "place", 0, 0, 40, 0);
        refused(off, causes('e', 1), "place", 0, 0, 41, 0);
        refused(off, causes('e', 30), "place", 0, 0, 0, 0);
    }

    static void promise14_beyondBothEnds() {
        // 30 off at either end, and 640 long: a module of 600 is too long by 20
        Supplier<Carcasswright> narrow = () -> wallOf(640, 30, 30);
        refused(narrow, causes('e', 10), "place", 0, 0, 20, 0);
        refused(narrow, causes('e', 11), "place", 0, 0, 19, 0);
        refused(narrow, causes('e', 11), "place", 0, 0, 21, 0);
        refused(narrow, causes('e', 30), "place", 0, 0, 0, 0);
        refused(narrow, causes('e', 30), "place", 0, 0, 40, 0);
        taken(() -> wallOf(660, 30, 30), 0, "place", 0, 0, 30, 0);
        refused(() -> wallOf(660, 30, 30), causes('e', 1), "place", 0, 0, 29, 0);
        refused(() -> wallOf(660, 30, 30), causes('e', 1), "place", 0, 0, 31, 0);
    }

    static void promise14_beyondTheClosedLength() {
        Supplier<Carcasswright> closed = () -> {
            Carcasswright shop = Shop.room(3000, 2500, 3011, 2494);
            shop.close();
            Shop.add(shop, "b");
            return shop;
        };
        taken(closed, 0, "place", 0, 0, 2406, 0);
        refused(closed, causes('e', 1), "place", 0, 0, 2407, 0);
        taken(closed, 0, "place", 0, 2, 2406, 0);
        refused(closed, causes('e', 1), "place", 0, 2, 2407, 0);
    }

    /** A module of each level, b, u and t, from 1000 to 1600. */
    private static Carcasswright level(char body) {
        Carcasswright shop = Shop.room(5000, 5000);
        for (String text : new String[] {"b", "u", "t"}) {
            Shop.add(shop, text);
        }
        shop.place("but".indexOf(body), 0, 1000, 0);
        return shop;
    }

    static void promise14_levelsInTheWay() {
        String[] pairs = {"bb", "bt", "tb", "tt", "uu", "ut", "tu"};
        int[] heights = {0, 0, 0, 0, 1400, 1400, 1400};
        for (int i = 0; i < pairs.length; i++) {
            char first = pairs[i].charAt(0);
            int type = "but".indexOf(pairs[i].charAt(1));
            Object[] due = causes('o', 0, 'h', heights[i]);
            refused(() -> level(first), due, "place", type, 0, 401, 0);
            refused(() -> level(first), due, "place", type, 0, 1000, 0);
            refused(() -> level(first), due, "place", type, 0, 1599, 0);
            taken(() -> level(first), 1, "place", type, 0, 400, 0);
            taken(() -> level(first), 1, "place", type, 0, 1600, 0);
            taken(() -> level(first), 1, "place", type, 1, 1000, 0);
        }
        taken(() -> level('b'), 1, "place", 1, 0, 1000, 0);
        taken(() -> level('u'), 1, "place", 0, 0, 1000, 0);
    }

    /** A narrow module within a wide one, and a wide one round a narrow one. */
    static void promise14_oneWithinTheOther() {
        Carcasswright shop = Shop.room(5000);
        Shop.add(shop, "bw1200");
        Shop.add(shop, "bw150");
        shop.place(0, 0, 1000, 0);
        shop.place(1, 0, 3000, 0);
        Check.unsupported("within", () -> shop.place(1, 0, 1500, 0));
        Refusals.causes(shop, 'o', 0, 'h', 0);
        Check.unsupported("round", () -> shop.place(0, 0, 2500, 0));
        Refusals.causes(shop, 'o', 1, 'h', 0);
        Check.unsupported("at its first place", () -> shop.place(1, 0, 1000, 0));
        Check.unsupported("at its last one", () -> shop.place(1, 0, 2050, 0));
        Refusals.causes(shop, 'o', 0, 'h', 0);
        Check.same("just behind", 2, shop.place(1, 0, 2200, 0));
        Check.same("just ahead", 3, shop.place(1, 0, 850, 0));
    }

    /** The module with the lower number stands behind the other one. */
    static void promise14_theLowestModule() {
        Supplier<Carcasswright> two = () -> {
            Carcasswright shop = wallOf(4000, 0, 0);
            shop.place(0, 0, 1600, 0);
            shop.place(0, 0, 1000, 0);
            return shop;
        };
        refused(two, causes('o', 0, 'h', 0), "place", 0, 0, 1300, 0);
        refused(two, causes('o', 1, 'h', 0), "place", 0, 0, 999, 0);
        refused(two, causes('o', 0, 'h', 0), "place", 0, 0, 2199, 0);
        refused(two, causes('o', 1, 'h', 0), "shift", 0, 1300);
        refused(two, causes('o', 0, 'h', 0), "shift", 1, 1300);
    }

    private static Carcasswright obstacles(int from, int to, int low, int high) {
        Carcasswright shop = level('b');
        shop.obstacle(0, from, to, low, high);
        return shop;
    }

    static void promise14_obstaclesByOne() {
        Supplier<Carcasswright> pipe = () -> obstacles(3000, 3001, 0, 3000);
        refused(pipe, causes('p', 0, 'h', 0), "place", 0, 0, 2401, 0);
        refused(pipe, causes('p', 0, 'h', 1400), "place", 1, 0, 2401, 0);
        refused(pipe, causes('p', 0, 'h', 0), "place", 2, 0, 3000, 0);
        taken(pipe, 1, "place", 0, 0, 2400, 0);
        taken(pipe, 1, "place", 0, 0, 3001, 0);
        taken(pipe, 1, "place", 0, 1, 2700, 0);
    }

    private static void levelAndHeights(int type, int lowest, int highest) {
        Object[] low = causes('p', 0, 'h', lowest);
        refused(() -> obstacles(3000, 3100, 0, lowest + 1), low, "place", type, 0, 2800, 0);
        refused(() -> obstacles(3000, 3100, lowest, lowest + 1), low, "place", type, 0, 2800, 0);
        Object[] high = causes('p', 0, 'h', highest - 1);
        refused(() -> obstacles(3000, 3100, highest - 1, highest), high, "place", type, 0, 2800, 0);
        refused(() -> obstacles(3000, 3100, highest - 1, 3000), high, "place", type, 0, 2800, 0);
        taken(() -> obstacles(3000, 3100, highest, 3000), 1, "place", type, 0, 2800, 0);
        if (lowest > 0) {
            taken(() -> obstacles(3000, 3100, 0, lowest), 1, "place", type, 0, 2800, 0);
        }
    }

    static void promise14_heightsByOne() {
        levelAndHeights(0, 0, 820);
        levelAndHeights(1, 1400, 2000);
        levelAndHeights(2, 0, 2100);
    }

    static void promise14_theLowestObstacle() {
        Supplier<Carcasswright> two = () -> {
            Carcasswright shop = obstacles(3300, 3400, 500, 600);
            shop.obstacle(0, 3000, 3100, 100, 200);
            shop.obstacle(1, 3000, 3100, 50, 60);
            return shop;
        };
        refused(two, causes('p', 0, 'h', 500), "place", 0, 0, 2900, 0);
        refused(two, causes('p', 1, 'h', 100), "place", 0, 0, 2700, 0);
        refused(two, causes('p', 2, 'h', 50), "place", 0, 1, 2900, 0);
    }

    /** A module with a door at the end of wall 0; on wall 1 one from 600 on, and an obstacle from 0 to 50. */
    private static Carcasswright crowded() {
        Carcasswright shop = Shop.room(4000, 4000, 4000);
        Shop.add(shop, "bd1");
        Shop.add(shop, "b");
        shop.place(0, 0, 3400, 0);
        shop.setOff(1, 10, 0);
        shop.place(1, 1, 700, 0);
        shop.obstacle(1, 0, 50, 0, 100);
        shop.obstacle(0, 3900, 4000, 0, 100);
        return shop;
    }

    static void promise14_theFirstOfTheCauses() {
        Supplier<Carcasswright> make = LayoutEdgesTest::crowded;
        // on wall 1 from 0: off by 10, at the obstacle, in the corner
        refused(make, causes('e', 10), "place", 1, 1, 0, 0);
        // up to 10 more: all but beyond
        refused(make, causes('p', 0, 'h', 0), "place", 1, 1, 10, 0);
        refused(make, causes('p', 0, 'h', 0), "place", 1, 1, 49, 0);
        // behind the obstacle: in the corner
        refused(make, causes('d', 0), "place", 1, 1, 50, 0);
        refused(make, causes('d', 0), "place", 1, 1, 100, 0);
        // from 101 on in the way of module 1, and in the corner
        refused(make, causes('o', 1, 'h', 0), "place", 1, 1, 101, 0);
        // beyond, in the way of a module and of an obstacle
        refused(make, causes('e', 1), "place", 0, 0, 3401, 0);
        refused(make, causes('o', 0, 'h', 0), "place", 0, 0, 3400, 0);
        // what stands in the way of an obstacle itself stays, and is refused if it is placed anew
        refused(make, causes('p', 1, 'h', 0), "shift", 0, 3400);
        taken(make, 3400, "shift", 0, 3300);
    }

    static void promise15_notInItsOwnWay() {
        Supplier<Carcasswright> one = () -> Shop.one("bd1", 0);
        taken(one, 0, "shift", 0, 0);
        taken(one, 0, "shift", 0, 1);
        taken(one, 0, "shift", 0, 599);
        taken(one, 0, "shift", 0, 3400);
        refused(one, causes('e', 1), "shift", 0, 3401);
        taken(one, 0, "change", 0, 0);
    }

    static void promise16_changeByOne() {
        Supplier<Carcasswright> make = () -> {
            Carcasswright shop = Shop.room(4000);
            for (String text : new String[] {"b", "bw700", "bw701", "tw700"}) {
                Shop.add(shop, text);
            }
            shop.place(0, 0, 0, 0);
            shop.place(0, 0, 700, 0);
            shop.place(0, 0, 3300, 0);
            shop.obstacle(0, 699, 700, 2100, 2200);
            return shop;
        };
        taken(make, 0, "change", 0, 1);
        refused(make, causes('o', 1, 'h', 0), "change", 0, 2);
        taken(make, 0, "change", 2, 1);
        refused(make, causes('e', 1), "change", 2, 2);
        taken(make, 0, "change", 0, 3);
        Supplier<Carcasswright> low = () -> {
            Carcasswright shop = make.get();
            shop.obstacle(0, 699, 701, 2099, 2200);
            return shop;
        };
        refused(low, causes('p', 1, 'h', 2099), "change", 0, 3);
        taken(low, 0, "change", 0, 1);
    }

    /** Some walls of 4000 to ways of which not all lead back, a module with a door at the end of one of them. */
    private static Carcasswright cornerOf(int walls, int wall) {
        Carcasswright shop = Shop.ways("enwsns".substring(0, walls), 4000);
        Shop.add(shop, "bd1");
        Shop.add(shop, "b");
        shop.place(0, wall, 3400, 0);
        return shop;
    }

    static void promise14_theLastWallIsNextToTheFirst() {
        for (int walls = 2; walls <= 6; walls++) {
            int count = walls;
            refused(() -> cornerOf(count, count - 1), causes('d', 0), "place", 1, 0, 0, 0);
            refused(() -> cornerOf(count, count - 1), causes('d', 0), "place", 1, 0, 619, 0);
            taken(() -> cornerOf(count, count - 1), 1, "place", 1, 0, 620, 0);
            taken(() -> cornerOf(count, count - 1), 1, "place", 1, 0, 3400, 0);
            for (int wall = 0; wall + 1 < walls; wall++) {
                int one = wall;
                refused(() -> cornerOf(count, one), causes('d', 0), "place", 1, one + 1, 619, 0);
                taken(() -> cornerOf(count, one), 1, "place", 1, one + 1, 620, 0);
            }
        }
    }

    static void promise14_otherWallsAreNoCorners() {
        for (int walls = 3; walls <= 6; walls++) {
            for (int wall = 0; wall < walls; wall++) {
                for (int other = 0; other < walls; other++) {
                    boolean isNext = other == (wall + 1) % walls;
                    Object got = Calls.answer(cornerOf(walls, wall), "place", 1, other, 0, 0);
                    Check.same(wall + " and " + other + " of " + walls, isNext ? Calls.UNSUPPORTED : 1, got);
                }
            }
        }
        Check.same("one wall alone", 1, cornerOf(1, 0).place(1, 0, 0, 0));
    }

    /** With two walls each is next to the other one: both ends are corners. */
    static void promise14_twoWallsHaveTwoCorners() {
        Supplier<Carcasswright> two = () -> cornerOf(2, 0);
        refused(two, causes('d', 0), "place", 1, 1, 0, 0);
        taken(two, 1, "place", 1, 1, 3400, 0);
        Supplier<Carcasswright> begins = () -> {
            Carcasswright shop = Shop.ways("ew", 4000);
            Shop.add(shop, "bd1");
            Shop.add(shop, "b");
            shop.place(0, 0, 0, 0);
            return shop;
        };
        refused(begins, causes('d', 0), "place", 1, 1, 3400, 0);
        refused(begins, causes('d', 0), "place", 1, 1, 2781, 0);
        taken(begins, 1, "place", 1, 1, 2780, 0);
        taken(begins, 1, "place", 1, 1, 0, 0);
    }

    static void promise14_cornersOfAClosedRoom() {
        Supplier<Carcasswright> closed = () -> {
            Carcasswright shop = Shop.room(4000, 4000, 4002, 4000);
            shop.close();
            Shop.add(shop, "bd1");
            Shop.add(shop, "b");
            return shop;
        };
        Supplier<Carcasswright> last = () -> {
            Carcasswright shop = closed.get();
            shop.place(0, 3, 3400, 0);
            return shop;
        };
        refused(last, causes('d', 0), "place", 1, 0, 619, 0);
        taken(last, 1, "place", 1, 0, 620, 0);
        // wall 0 is 4001 now: 1 is left behind 4000, and 600 behind 3401, no less than the door
        Supplier<Carcasswright> first = () -> {
            Carcasswright shop = closed.get();
            shop.place(0, 0, 2801, 0);
            return shop;
        };
        taken(first, 1, "place", 1, 1, 0, 0);
        refused(() -> {
            Carcasswright shop = closed.get();
            shop.place(0, 0, 2802, 0);
            return shop;
        }, causes('d', 0), "place", 1, 1, 0, 0);
    }

    /** A first one on wall 0 that leaves so much behind it, then a second one on wall 1 from a place on. */
    private static void corner(boolean isInWay, String first, int left, String second, int from) {
        Supplier<Carcasswright> make = () -> {
            Carcasswright shop = Shop.room(4000, 4000, 4000);
            Shop.add(shop, first);
            Shop.add(shop, second);
            shop.place(0, 0, 4000 - left - shop.told(0, 'w'), 0);
            return shop;
        };
        if (isInWay) {
            refused(make, causes('d', 0), "place", 1, 1, from, 0);
        } else {
            taken(make, 1, "place", 1, 1, from, 0);
        }
    }

    static void promise14_doorsOfTheOne() {
        corner(true, "bd1w619", 618, "b", 0);
        corner(false, "bd1w619", 619, "b", 0);
        corner(true, "bw601d2", 299, "b", 619);
        corner(false, "bw601d2", 300, "b", 619);
        corner(true, "bw602d2", 300, "b", 0);
        corner(false, "bw602d2", 301, "b", 0);
        corner(false, "bw602d2", 300, "b", 620);
        corner(true, "bw1200d2", 599, "b", 0);
        corner(false, "bw1200d2", 600, "b", 0);
        corner(true, "bw1200d1", 619, "b", 0);
        corner(false, "bw1200d1", 620, "b", 0);
    }

    static void promise14_doorsOfTheOther() {
        corner(true, "b", 0, "bw619d1", 618);
        corner(false, "b", 0, "bw619d1", 619);
        corner(true, "b", 619, "bw601d2", 299);
        corner(false, "b", 619, "bw601d2", 300);
        corner(false, "b", 620, "bw601d2", 299);
        corner(true, "b", 0, "bw602d2", 300);
        corner(false, "b", 0, "bw602d2", 301);
        corner(true, "b", 0, "bw1200d1", 619);
        corner(false, "b", 0, "bw1200d1", 620);
        // without doors nothing is in the way, however near
        corner(false, "b", 0, "b", 0);
        corner(false, "br3", 0, "bs9", 0);
        // both have doors, each of which opens
        corner(false, "bw300d1", 300, "bw300d1", 300);
        corner(true, "bw300d1", 299, "bw300d1", 300);
        corner(true, "bw300d1", 300, "bw300d1", 299);
    }

    static void promise14_depthsOfCorners() {
        corner(true, "uw1000d1", 379, "u", 0);
        corner(false, "uw1000d1", 380, "u", 0);
        corner(true, "uw1000d1", 0, "u", 379);
        corner(false, "uw1000d1", 0, "u", 380);
        corner(true, "uw1000d1", 619, "t", 379);
        corner(false, "uw1000d1", 620, "t", 379);
        corner(false, "uw1000d1", 619, "t", 380);
        corner(true, "tw1000d1", 379, "u", 619);
        corner(false, "tw1000d1", 380, "u", 619);
        corner(false, "tw1000d1", 379, "u", 620);
        corner(true, "tw1000d1", 619, "b", 619);
        corner(false, "tw1000d1", 619, "b", 620);
        corner(true, "bw1000d1", 619, "t", 619);
        corner(false, "bw1000d1", 620, "t", 619);
        corner(false, "bd1", 0, "ud1", 0);
        corner(false, "ud1", 0, "bd1", 0);
    }

    static void promise15_shiftIntoACorner() {
        Supplier<Carcasswright> make = () -> {
            Carcasswright shop = cornerOf(4, 0);
            shop.place(1, 1, 700, 0);
            shop.place(1, 0, 0, 0);
            return shop;
        };
        taken(make, 700, "shift", 1, 620);
        refused(make, causes('d', 0), "shift", 1, 619);
        taken(make, 0, "shift", 2, 2800);
    }

    static void promise16_changeInACorner() {
        Supplier<Carcasswright> make = () -> {
            Carcasswright shop = Shop.room(4000, 4000, 4000);
            for (String text : new String[] {"bw300", "bw300d1", "uw300d1", "bw300d2"}) {
                Shop.add(shop, text);
            }
            shop.place(0, 0, 3500, 0);
            shop.place(0, 1, 100, 0);
            return shop;
        };
        // 200 are left behind module 0, and module 1 is from 100 on
        refused(make, causes('d', 1), "change", 0, 1);
        taken(make, 0, "change", 0, 3);
        taken(make, 0, "change", 0, 2);
        refused(make, causes('d', 0), "change", 1, 1);
        refused(make, causes('d', 0), "change", 1, 3);
    }

    static void promise17_otherRefusalsHaveNoCauses() {
        Carcasswright shop = Shop.standard();
        Calls.due(Calls.UNSUPPORTED, shop, "close");
        Calls.due(Calls.BAD_STATE, shop, "addWall", 'e', 500);
        Calls.due(Calls.UNSUPPORTED, shop, "packs", 0, 1);
        Calls.due(Calls.UNSUPPORTED, shop, "lose", 1, 0);
        Calls.due(Calls.BAD_ARGUMENT, shop, "place", 0, 0, -1, 0);
        Calls.due(Calls.NO_INDEX, shop, "shift", 9, 0);
        Calls.due(Calls.NO_INDEX, shop, "change", 0, 9);
        Calls.due(Calls.NO_ELEMENT, shop, "clash", 2);
        Refusals.causes(shop, 'o', 0, 'h', 0);
        Check.same("what goes well has none", 1000, shop.shift(0, 900));
        Refusals.causes(shop, 'o', 0, 'h', 0);
        Calls.due(Calls.UNSUPPORTED, shop, "shift", 0, 9999);
        Refusals.causes(shop, 'e', 9999 + 600 - 3006);
    }

    static void promise20_freeByOne() {
        Supplier<Carcasswright> empty = () -> wallOf(650, 60, 60);
        for (boolean isUpper : new boolean[] {false, true}) {
            taken(empty, 650, "free", 0, isUpper);
            taken(empty, 650, "widest", 0, isUpper);
        }
        Supplier<Carcasswright> nearlyFull = () -> {
            Carcasswright shop = Shop.room(601);
            Shop.add(shop, "t");
            shop.place(0, 0, 1, 0);
            shop.setOff(0, 60, 60);
            shop.obstacle(0, 0, 9999, 0, 3000);
            return shop;
        };
        for (boolean isUpper : new boolean[] {false, true}) {
            taken(nearlyFull, 1, "free", 0, isUpper);
            taken(nearlyFull, 1, "widest", 0, isUpper);
        }
    }

    static void promise20_freeOfAClosedRoom() {
        Carcasswright shop = Shop.room(3000, 2500, 3011, 2494);
        shop.close();
        Shop.add(shop, "b");
        shop.place(0, 2, 2406, 0);
        int[] free = {3006, 2497, 2406, 2497};
        for (int wall = 0; wall < 4; wall++) {
            Check.same("free of wall " + wall, free[wall], shop.free(wall, false));
            Check.same("in one row", free[wall], shop.widest(wall, false));
        }
    }

    static void promise21_rowsOfModules() {
        Carcasswright shop = Shop.room(3000, 3000);
        for (String text : new String[] {"bw500", "uw400", "tw300"}) {
            Shop.add(shop, text);
        }
        shop.place(0, 0, 2500, 0);
        shop.place(0, 0, 0, 0);
        shop.place(2, 0, 500, 0);
        rows(shop, 1700, 1700, 2700, 2200);
        // 1700 between 800 and 2500 are cut in two
        shop.place(0, 0, 1400, 0);
        rows(shop, 1200, 600, 2700, 2200);
        shop.shift(3, 1401);
        rows(shop, 1200, 601, 2700, 2200);
        shop.place(1, 0, 800, 0);
        rows(shop, 1200, 601, 2300, 1800);
        shop.shift(4, 2600);
        rows(shop, 1200, 601, 2300, 1800);
        shop.shift(4, 2599);
        rows(shop, 1200, 601, 2300, 1799);
        Check.same("the other wall", 3000, shop.free(1, false));
        shop.change(3, 1);
        rows(shop, 1700, 1700, 1900, 798);
    }

    private static void rows(Carcasswright shop, int low, int widestLow, int upper, int widestUpper) {
        Check.same("free below", low, shop.free(0, false));
        Check.same("widest below", widestLow, shop.widest(0, false));
        Check.same("free above", upper, shop.free(0, true));
        Check.same("widest above", widestUpper, shop.widest(0, true));
    }

    private LayoutEdgesTest() {
    }
}
