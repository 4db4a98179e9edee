/** Nothing there yet: each call of the face on a new object, and on one that has only what a call does not ask for. */
final class EmptyTest {
    /** What each call of the face answers on a new object. */
    private static final Object[][] NEW_OBJECT = {
        {0, "addWall", 'n', 500}, {Calls.UNSUPPORTED, "close"}, {Calls.NO_INDEX, "lengthOf", 0},
        {false, "isClosedRoom"}, {Calls.NO_INDEX, "setOff", 0, 0, 0}, {Calls.NO_INDEX, "obstacle", 0, 0, 1, 0, 1},
        {1, "type", 'b'}, {0, "wipe"}, {0, "fault"}, {'k', "faultKind"}, {Calls.BAD_ARGUMENT, "addType"},
        {Calls.NO_INDEX, "told", 0, 'w'}, {Calls.NO_INDEX, "place", 0, 0, 0, 0}, {Calls.NO_INDEX, "shift", 0, 0},
        {Calls.NO_INDEX, "change", 0, 0}, {Calls.NO_ELEMENT, "clash", 0}, {Calls.NO_ELEMENT, "clashNumber", 0},
        {Calls.NO_INDEX, "from", 0}, {Calls.NO_INDEX, "free", 0, true}, {Calls.NO_INDEX, "widest", 0, true},
        {Calls.NO_INDEX, "parts", 0}, {Calls.NO_INDEX, "kindOf", 0, 0}, {Calls.NO_INDEX, "size", 0, 0, 'l'},
        {Calls.NO_INDEX, "weight", 0, 0}, {Calls.NO_INDEX, "hinges", 0}, {Calls.NO_INDEX, "holes", 0, 0},
        {Calls.NO_INDEX, "hole", 0, 0, 0, 'a'}, {Calls.NO_INDEX, "drills", 0, 0},
        {Calls.NO_INDEX, "clamp", 0, 0, false}, {1, "addBoards", 0, 8, 300, 300, 1}, {0, "boards"}, {0, "offcuts"},
        {Calls.NO_INDEX, "board", 0, 'l'}, {Calls.NO_INDEX, "uncut", 0}, {Calls.NO_INDEX, "cut", 0},
        {Calls.NO_INDEX, "lose", 0, 0}, {0, "edged", 0}, {2, "setRate", 0, 2}, {5, "setRate", 1, 5},
        {9, "setRate", 2, 9}, {Calls.NO_INDEX, "price", 0}, {Calls.NO_INDEX, "packs", 0, 1},
        {Calls.NO_INDEX, "packOf", 0, 1, 0}, {Calls.NO_INDEX, "stepAt", 0, 0}, {0, "job", 0, 1, 0},
        {2, "setSetup", 2}, {0, "lateness"}, {Calls.NO_INDEX, "jobAt", 0}, {0, "modules"}, {0L, "area", 'c'},
        {0L, "area", 's'}, {0L, "area", 'p'}, {0L, "area", 'd'}, {0L, "area", 'x'}, {Calls.NO_ELEMENT, "cutShare"},
        {Calls.NO_ELEMENT, "meanWidth"}, {true, "isSound"},
    };

    private static void answersAreDue(Carcasswright shop, Object[]... calls) {
        for (Object[] call : calls) {
            Object[] arguments = java.util.Arrays.copyOfRange(call, 2, call.length);
            Calls.due(call[0], shop, (String) call[1], arguments);
        }
    }

    static void promise01_eachCallOnANewObject() {
        java.util.Set<Object> names = new java.util.HashSet<>();
        for (Object[] call : NEW_OBJECT) {
            answersAreDue(new Carcasswright(), call);
            names.add(call[1]);
            Object[] arguments = java.util.Arrays.copyOfRange(call, 2, call.length);
            if (Calls.isThrown(call[0])) {
                Refusals.due(Carcasswright::new, (Class<?>) call[0], (String) call[1], arguments);
            }
        }
        Check.same("calls of the face", 51, names.size());
    }

    static void promise01_refusalsOneBehindTheOther() {
        Carcasswright shop = new Carcasswright();
        for (Object[] call : NEW_OBJECT) {
            if (Calls.isThrown(call[0])) {
                answersAreDue(shop, call);
            }
        }
        answersAreDue(shop, new Object[][] {
            {0, "wipe"}, {0, "boards"}, {0, "modules"}, {0, "lateness"}, {true, "isSound"},
        });
    }

    /** An object is used for at most 512 calls: the last ones answer as the first ones. */
    static void promise01_fiveHundredAndTwelveCalls() {
        Carcasswright shop = new Carcasswright();
        for (int call = 1; call <= 509; call += 4) {
            answersAreDue(shop, new Object[][] {{1, "type", 'x'}, {'k', "faultKind"}, {1, "wipe"}, {0, "modules"}});
        }
        Carcasswright last = new Carcasswright();
        for (int call = 1; call < 512; call++) {
            answersAreDue(last, new Object[][] {{Calls.NO_INDEX, "lengthOf", 0}});
        }
        answersAreDue(last, new Object[][] {{0, "addWall", 'e', 500}});
    }

    static void promise05_noWalls() {
        Check.same("without walls", false, new Carcasswright().isClosedRoom());
        Check.same("one wall", false, Shop.room(500).isClosedRoom());
    }

    static void promise08_emptyText() {
        Carcasswright shop = new Carcasswright();
        Check.same("place of the fault", 0, shop.fault());
        Check.same("the first sign is missing", 'k', shop.faultKind());
        Refusals.due(Carcasswright::new, Calls.BAD_ARGUMENT, "addType");
        Check.same("nothing to wipe", 0, shop.wipe());
        Check.same("the first sign", 1, shop.type('b'));
        Check.same("it is wiped", 1, shop.wipe());
        Check.same("empty again", 'k', shop.faultKind());
    }

    static void promise12_emptyBehindAddType() {
        Carcasswright shop = new Carcasswright();
        Shop.add(shop, "b");
        Check.same("nothing to wipe", 0, shop.wipe());
        Check.same("the fault of the empty text", 0, shop.fault());
        Check.badArgument("not twice", shop::addType);
        Check.same("one type", 1, Shop.add(shop, "b"));
    }

    private static Carcasswright walls() {
        return Shop.room(3000, 2500, 3000, 2500);
    }

    private static Carcasswright types() {
        Carcasswright shop = new Carcasswright();
        Shop.add(shop, "b");
        return shop;
    }

    static void promise14_wallsOrTypesOnly() {
        Refusals.due(EmptyTest::walls, Calls.NO_INDEX, "place", 0, 0, 0, 0);
        Refusals.due(EmptyTest::types, Calls.NO_INDEX, "place", 0, 0, 0, 0);
        Refusals.due(EmptyTest::types, Calls.NO_INDEX, "change", 0, 0);
        Refusals.due(EmptyTest::types, Calls.NO_INDEX, "shift", 0, 0);
    }

    static void promise20_wallWithoutModules() {
        Carcasswright shop = walls();
        for (boolean isUpper : new boolean[] {false, true}) {
            Check.same("all is free", 2500, shop.free(1, isUpper));
            Check.same("in one row", 2500, shop.widest(1, isUpper));
        }
    }

    private static Carcasswright withoutBoards() {
        return Shop.one("bd1s1", 1);
    }

    static void promise36_noBoards() {
        Refusals.due(EmptyTest::withoutBoards, Calls.UNSUPPORTED, "cut", 0);
        Refusals.due(EmptyTest::withoutBoards, Calls.UNSUPPORTED, "lose", 0, 0);
        Check.same("all is to be cut", 7, withoutBoards().uncut(0));
        Check.same("a share of 0", 0.0f, withoutBoards().cutShare());
        Check.same("nothing edged", 0, withoutBoards().edged(0));
    }

    static void promise50_boardsAndTypesAreNoModules() {
        Carcasswright shop = types();
        shop.addBoards(0, 18, 2800, 2070, 1);
        shop.addWall('e', 3000);
        Check.noElement("no share", shop::cutShare);
        Check.noElement("no width", shop::meanWidth);
        Check.same("no modules", 0, shop.modules());
        Check.same("sound", true, shop.isSound());
    }

    private EmptyTest() {
    }
}
