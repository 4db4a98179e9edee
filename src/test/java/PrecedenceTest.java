import java.util.function.Supplier;

/** If several exceptions apply, the one that the document lists first is thrown, and nothing is changed. */
final class PrecedenceTest {
    private static void first(Class<?> due, Supplier<Carcasswright> make, String name, Object... arguments) {
        Refusals.due(make, due, name, arguments);
    }

    private static Carcasswright sixWalls() {
        return Shop.room(500, 600, 700, 800, 900, 1000);
    }

    static void promise02_argumentAheadOfState() {
        first(Calls.BAD_ARGUMENT, PrecedenceTest::sixWalls, "addWall", 'x', 600);
        first(Calls.BAD_ARGUMENT, PrecedenceTest::sixWalls, "addWall", 'e', 499);
        first(Calls.BAD_ARGUMENT, PrecedenceTest::sixWalls, "addWall", 'x', 10000);
        first(Calls.BAD_ARGUMENT, Shop::standard, "addWall", 'e', 10000);
        first(Calls.BAD_ARGUMENT, Shop::standard, "addWall", 'E', 600);
        first(Calls.BAD_STATE, Shop::standard, "addWall", 'e', 600);
        first(Calls.BAD_STATE, PrecedenceTest::sixWalls, "addWall", 'e', 600);
    }

    static void promise06_indexAheadOfArgument() {
        first(Calls.NO_INDEX, Shop::standard, "setOff", 4, 61, -1);
        first(Calls.NO_INDEX, Shop::standard, "setOff", -1, -1, 0);
        first(Calls.BAD_ARGUMENT, Shop::standard, "setOff", 3, 60, 61);
        first(Calls.BAD_ARGUMENT, Shop::standard, "setOff", 3, 61, 60);
    }

    static void promise07_indexArgumentState() {
        first(Calls.NO_INDEX, Shop::standard, "obstacle", 4, 5, 5, 5, 5);
        first(Calls.NO_INDEX, Shop::full, "obstacle", 6, 0, 1, 0, 1);
        first(Calls.NO_INDEX, Shop::full, "obstacle", -1, -1, -1, -1, -1);
        first(Calls.BAD_ARGUMENT, Shop::full, "obstacle", 0, 1, 1, 0, 1);
        first(Calls.BAD_ARGUMENT, Shop::full, "obstacle", 0, 0, 1, 1, 1);
        first(Calls.BAD_ARGUMENT, Shop::full, "obstacle", 0, -1, 1, 0, 1);
        first(Calls.BAD_ARGUMENT, Shop::full, "obstacle", 0, 0, 10000, 0, 1);
        first(Calls.BAD_ARGUMENT, Shop::full, "obstacle", 0, 0, 1, 0, 3001);
        first(Calls.BAD_STATE, Shop::full, "obstacle", 0, 0, 1, 0, 1);
    }

    private static Carcasswright eightTypesAndAFault() {
        Carcasswright shop = Shop.full();
        Shop.tell(shop, "bd3");
        return shop;
    }

    static void promise12_faultAheadOfEightTypes() {
        first(Calls.BAD_ARGUMENT, PrecedenceTest::eightTypesAndAFault, "addType");
        first(Calls.BAD_STATE, Shop::full, "addType");
    }

    static void promise13_indexAheadOfLetter() {
        first(Calls.NO_INDEX, Shop::standard, "told", 4, 'x');
        first(Calls.NO_INDEX, Carcasswright::new, "told", 0, 'x');
        first(Calls.BAD_ARGUMENT, Shop::standard, "told", 3, 'x');
    }

    static void promise14_indexArgumentStateRefusal() {
        // type and wall go ahead of the numbers, of 16 modules, of what would be refused
        first(Calls.NO_INDEX, Shop::standard, "place", 4, 0, -1, 0);
        first(Calls.NO_INDEX, Shop::standard, "place", 0, 4, 0, 3);
        first(Calls.NO_INDEX, Shop::full, "place", 8, 0, 0, 0);
        first(Calls.NO_INDEX, Shop::full, "place", 0, 6, 0, 0);
        first(Calls.NO_INDEX, Shop::full, "place", 0, -1, 10000, -1);
        first(Calls.NO_INDEX, Shop::standard, "place", -1, 0, 9999, 0);
        // numbers ahead of 16 modules, and of what would be refused
        first(Calls.BAD_ARGUMENT, Shop::full, "place", 0, 0, 10000, 0);
        first(Calls.BAD_ARGUMENT, Shop::full, "place", 0, 0, 3000, 3);
        first(Calls.BAD_ARGUMENT, Shop::standard, "place", 0, 0, -1, 0);
        first(Calls.BAD_ARGUMENT, Shop::standard, "place", 0, 0, 1000, -1);
        first(Calls.BAD_ARGUMENT, Shop::standard, "place", 0, 0, 9999, 3);
        // 16 modules ahead of what would be refused, for which there are no causes then
        first(Calls.BAD_STATE, Shop::full, "place", 0, 0, 0, 0);
        first(Calls.BAD_STATE, Shop::full, "place", 0, 0, 9999, 0);
    }

    /** Of a module whose parts are cut already, with other causes ahead. */
    static void promise16_refusalsChangeNothingButCauses() {
        Refusals.dueWithCauses(Shop::standard, new Object[] {'o', 1, 'h', 1400}, "change", 0, 2);
        Refusals.dueWithCauses(Shop::standard, new Object[] {'o', 0, 'h', 0}, "place", 2, 0, 600, 0);
        Refusals.dueWithCauses(Shop::standard, new Object[] {'p', 0, 'h', 0}, "shift", 0, 1500);
        Refusals.dueWithCauses(Shop::standard, new Object[] {'e', 94}, "shift", 0, 2500);
        Refusals.dueWithCauses(Shop::standard, new Object[] {'e', 2}, "place", 3, 3, 1639, 2);
        Refusals.dueWithCauses(Shop::full, new Object[] {'o', 14, 'h', 0}, "shift", 15, 2249);
        Refusals.dueWithCauses(Shop::full, new Object[] {'o', 15, 'h', 0}, "change", 14, 7);
    }

    static void promise15_indexArgumentRefusal() {
        first(Calls.NO_INDEX, Shop::standard, "shift", 3, 10000);
        first(Calls.NO_INDEX, Shop::standard, "shift", -1, 9999);
        first(Calls.BAD_ARGUMENT, Shop::standard, "shift", 0, 10000);
        first(Calls.BAD_ARGUMENT, Shop::standard, "shift", 0, -1);
    }

    static void promise16_indexAheadOfRefusal() {
        first(Calls.NO_INDEX, Shop::standard, "change", 3, 0);
        first(Calls.NO_INDEX, Shop::standard, "change", 0, 4);
        first(Calls.NO_INDEX, Shop::standard, "change", 3, 4);
        first(Calls.NO_INDEX, Shop::standard, "change", -1, -1);
    }

    static void promise24_indexAheadOfLetter() {
        first(Calls.NO_INDEX, Shop::standard, "size", 3, 0, 'x');
        first(Calls.NO_INDEX, Shop::standard, "size", 0, 8, 'x');
        first(Calls.BAD_ARGUMENT, Shop::standard, "size", 0, 7, 'x');
    }

    static void promise28_indexAheadOfLetter() {
        first(Calls.NO_INDEX, Shop::standard, "hole", 3, 0, 0, 'x');
        first(Calls.NO_INDEX, Shop::standard, "hole", 0, 8, 0, 'x');
        first(Calls.NO_INDEX, Shop::standard, "hole", 0, 0, 4, 'x');
        first(Calls.NO_INDEX, Shop::standard, "hole", 0, 2, 0, 'x');
        first(Calls.BAD_ARGUMENT, Shop::standard, "hole", 0, 0, 3, 'x');
    }

    private static Carcasswright narrow() {
        return Shop.one("bw150", 0);
    }

    static void promise30_indexAheadOfNoPlaces() {
        first(Calls.NO_INDEX, PrecedenceTest::narrow, "clamp", 0, 5, false);
        first(Calls.NO_INDEX, PrecedenceTest::narrow, "clamp", 1, 2, true);
        first(Calls.NO_ELEMENT, PrecedenceTest::narrow, "clamp", 0, 2, false);
        first(Calls.NO_ELEMENT, PrecedenceTest::narrow, "clamp", 0, 2, true);
    }

    static void promise31_argumentAheadOfState() {
        first(Calls.BAD_ARGUMENT, Shop::full, "addBoards", 3, 18, 300, 300, 1);
        first(Calls.BAD_ARGUMENT, Shop::full, "addBoards", 0, 10, 300, 300, 1);
        first(Calls.BAD_ARGUMENT, Shop::full, "addBoards", 0, 18, 299, 300, 1);
        first(Calls.BAD_ARGUMENT, Shop::full, "addBoards", 0, 18, 300, 2101, 1);
        first(Calls.BAD_ARGUMENT, Shop::full, "addBoards", 0, 18, 300, 300, 21);
        first(Calls.BAD_ARGUMENT, Shop::full, "addBoards", 0, 18, 300, 300, 0);
        first(Calls.BAD_STATE, Shop::full, "addBoards", 0, 18, 300, 300, 1);
    }

    static void promise34_indexAheadOfLetter() {
        first(Calls.NO_INDEX, Shop::full, "board", 60, 'x');
        first(Calls.NO_INDEX, Carcasswright::new, "board", 0, 'x');
        first(Calls.BAD_ARGUMENT, Shop::full, "board", 59, 'x');
    }

    /** All of the only module is cut, and no board is left. */
    private static Carcasswright cutWithoutBoards() {
        Carcasswright shop = narrow();
        shop.addBoards(0, 18, 1444, 560, 1);
        shop.addBoards(0, 18, 560, 300, 1);
        shop.addBoards(0, 8, 716, 300, 1);
        shop.cut(0);
        return shop;
    }

    static void promise36_indexAllCutNoBoards() {
        Check.same("nothing in stock", 0, cutWithoutBoards().boards());
        first(Calls.NO_INDEX, PrecedenceTest::cutWithoutBoards, "cut", 1);
        first(Calls.NO_INDEX, PrecedenceTest::narrow, "cut", 1);
        first(Calls.NO_ELEMENT, PrecedenceTest::cutWithoutBoards, "cut", 0);
        first(Calls.UNSUPPORTED, PrecedenceTest::narrow, "cut", 0);
    }

    static void promise37_indexAheadOfNoneCut() {
        first(Calls.NO_INDEX, PrecedenceTest::narrow, "lose", 1, 0);
        first(Calls.NO_INDEX, PrecedenceTest::narrow, "lose", 0, 5);
        first(Calls.UNSUPPORTED, PrecedenceTest::narrow, "lose", 0, 4);
    }

    static void promise41_indexArgumentHeavier() {
        first(Calls.NO_INDEX, Shop::standard, "packs", 3, 0);
        first(Calls.NO_INDEX, Shop::standard, "packs", -1, 1);
        first(Calls.BAD_ARGUMENT, Shop::standard, "packs", 0, 0);
        first(Calls.BAD_ARGUMENT, Shop::standard, "packs", 0, -5);
        first(Calls.UNSUPPORTED, Shop::standard, "packs", 0, 1);
    }

    static void promise42_indexArgumentHeavier() {
        first(Calls.NO_INDEX, Shop::standard, "packOf", 3, 0, 0);
        first(Calls.NO_INDEX, Shop::standard, "packOf", 0, 0, 8);
        first(Calls.NO_INDEX, Shop::standard, "packOf", 0, 1, 8);
        first(Calls.NO_INDEX, Shop::standard, "packOf", 0, 100000, -1);
        first(Calls.BAD_ARGUMENT, Shop::standard, "packOf", 0, 0, 0);
        first(Calls.BAD_ARGUMENT, Shop::standard, "packOf", 0, 100000, 7);
        first(Calls.UNSUPPORTED, Shop::standard, "packOf", 0, 1, 7);
    }

    static void promise44_argumentAheadOfState() {
        first(Calls.BAD_ARGUMENT, Shop::full, "job", 3, 1, 0);
        first(Calls.BAD_ARGUMENT, Shop::full, "job", 0, 0, 0);
        first(Calls.BAD_ARGUMENT, Shop::full, "job", 0, 100, 0);
        first(Calls.BAD_ARGUMENT, Shop::full, "job", 0, 1, 1000);
        first(Calls.BAD_STATE, Shop::full, "job", 0, 1, 0);
    }

    private PrecedenceTest() {
    }
}
