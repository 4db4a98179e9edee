import java.util.function.Supplier;

/**
 * The ranges of all numbers, letters and indices: the least and the greatest one are taken, the ones next to them
 * outside are refused, with nothing changed, and so are the least and the greatest of all ints.
 */
final class RangesTest {
    /** Of the number at a place among good arguments. */
    private static void range(Supplier<Carcasswright> make, int least, int most, int at, String name,
            Object... good) {
        for (int number : new int[] {least, Math.min(least + 1, most), Math.max(most - 1, least), most}) {
            Object[] arguments = with(good, at, number);
            Object got = Calls.answer(make.get(), name, arguments);
            Check.same(Calls.text(name, arguments) + " is in range", false, got == Calls.BAD_ARGUMENT);
        }
        for (int number : new int[] {least - 1, most + 1, Integer.MIN_VALUE, Integer.MAX_VALUE}) {
            Refusals.due(make, Calls.BAD_ARGUMENT, name, with(good, at, number));
        }
    }

    /** Of the index at a place among good arguments, so many of which there are. */
    private static void index(Supplier<Carcasswright> make, int count, int at, String name, Object... good) {
        for (int number : new int[] {0, count - 1}) {
            Object[] arguments = with(good, at, number);
            Object got = Calls.answer(make.get(), name, arguments);
            Check.same(Calls.text(name, arguments) + " is there", false, got == Calls.NO_INDEX);
        }
        for (int number : new int[] {-1, count, Integer.MIN_VALUE, Integer.MAX_VALUE}) {
            Refusals.due(make, Calls.NO_INDEX, name, with(good, at, number));
        }
    }

    /** Of the letter at a place among good arguments: all signs that there are, in new workshops now and then. */
    private static void letter(Supplier<Carcasswright> make, String letters, int at, String name, Object... good) {
        Carcasswright shop = make.get();
        for (int sign = 0; sign <= Character.MAX_VALUE; sign++) {
            if (sign % 300 == 0) {
                shop = make.get();
            }
            boolean isLetter = letters.indexOf(sign) >= 0;
            Object[] arguments = with(good, at, (char) sign);
            Object got = Calls.answer(shop, name, arguments);
            if (isLetter ? Calls.isThrown(got) : got != Calls.BAD_ARGUMENT) {
                Check.tell(name + " of sign " + sign + " answered " + got);
            }
        }
        Refusals.due(make, Calls.BAD_ARGUMENT, name, with(good, at, 'X'));
    }

    private static Object[] with(Object[] good, int at, Object number) {
        Object[] arguments = good.clone();
        arguments[at] = number;
        return arguments;
    }

    private static Carcasswright cutWithoutCauses() {
        Carcasswright shop = Shop.one("bd1s1", 1);
        shop.addBoards(0, 18, 2800, 2070, 1);
        shop.addBoards(0, 8, 800, 700, 1);
        shop.addBoards(1, 18, 800, 700, 1);
        shop.cut(0);
        return shop;
    }

    static void promise02_ranges() {
        range(Carcasswright::new, 500, 9999, 1, "addWall", 'e', 700);
        letter(Carcasswright::new, "ewns", 0, "addWall", 'e', 700);
    }

    static void promise04_indices() {
        index(Shop::standard, 4, 0, "lengthOf", 0);
        index(Shop::full, 6, 0, "lengthOf", 0);
    }

    static void promise06_ranges() {
        index(Shop::standard, 4, 0, "setOff", 0, 1, 1);
        index(Shop::full, 6, 0, "setOff", 0, 1, 1);
        range(Shop::standard, 0, 60, 1, "setOff", 1, 30, 30);
        range(Shop::standard, 0, 60, 2, "setOff", 1, 30, 30);
    }

    static void promise07_ranges() {
        index(Shop::standard, 4, 0, "obstacle", 0, 1, 2, 3, 4);
        range(Shop::standard, 0, 9998, 1, "obstacle", 0, 1, 9999, 3, 4);
        range(Shop::standard, 1, 9999, 2, "obstacle", 0, 0, 2, 3, 4);
        range(Shop::standard, 0, 2999, 3, "obstacle", 0, 1, 2, 3, 3000);
        range(Shop::standard, 1, 3000, 4, "obstacle", 0, 1, 2, 0, 4);
        // to and high are above from and low, whatever these are
        range(Shop::standard, 501, 9999, 2, "obstacle", 0, 500, 501, 3, 4);
        range(Shop::standard, 9999, 9999, 2, "obstacle", 0, 9998, 9999, 3, 4);
        range(Shop::standard, 701, 3000, 4, "obstacle", 0, 1, 2, 700, 701);
        range(Shop::standard, 3000, 3000, 4, "obstacle", 0, 1, 2, 2999, 3000);
    }

    static void promise08_anySignIsTyped() {
        Carcasswright shop = new Carcasswright();
        for (int sign = 0; sign <= Character.MAX_VALUE; sign++) {
            if (sign % 480 == 0) {
                shop = new Carcasswright();
            }
            if (sign % 30 == 0) {
                shop.wipe();
            }
            Object got = Calls.answer(shop, "type", (char) sign);
            Check.same("sign " + sign, sign % 30 + 1, got);
        }
    }

    static void promise13_ranges() {
        index(Shop::standard, 4, 0, "told", 0, 'w');
        index(Shop::full, 8, 0, "told", 0, 'w');
        letter(Shop::standard, "wdsrh", 1, "told", 3, 'w');
    }

    static void promise14_ranges() {
        index(Shop::standard, 4, 0, "place", 0, 1, 1200, 0);
        index(Shop::standard, 4, 1, "place", 0, 1, 1200, 0);
        range(Shop::standard, 0, 9999, 2, "place", 0, 1, 1200, 0);
        range(Shop::standard, 0, 2, 3, "place", 0, 1, 1200, 0);
        Carcasswright shop = Shop.room(9999);
        Shop.add(shop, "b");
        Check.same("the least place", 0, shop.place(0, 0, 0, 0));
        Check.same("the greatest place that ends in time", 1, shop.place(0, 0, 9399, 2));
        Check.unsupported("one more", () -> shop.place(0, 0, 9400, 0));
        Refusals.causes(shop, 'e', 1);
        Check.unsupported("the greatest place", () -> shop.place(0, 0, 9999, 0));
        Refusals.causes(shop, 'e', 600);
    }

    static void promise15_ranges() {
        index(Shop::standard, 3, 0, "shift", 0, 1100);
        index(Shop::full, 16, 0, "shift", 0, 1100);
        range(Shop::standard, 0, 9999, 1, "shift", 0, 1100);
    }

    static void promise16_indices() {
        index(Shop::standard, 3, 0, "change", 0, 3);
        index(Shop::standard, 4, 1, "change", 0, 3);
        index(Shop::full, 16, 0, "change", 0, 3);
        index(Shop::full, 8, 1, "change", 0, 3);
    }

    private static void depth(Supplier<Carcasswright> make, int count, String name) {
        for (int depth = 0; depth < count; depth++) {
            Check.same(name + " at " + depth, false, Calls.isThrown(Calls.answer(make.get(), name, depth)));
        }
        for (int depth : new int[] {-1, count, Integer.MIN_VALUE, Integer.MAX_VALUE}) {
            Refusals.due(make, Calls.NO_ELEMENT, name, depth);
        }
    }

    /** The causes of what is beyond its wall, or in a corner, have no height below them. */
    private static Carcasswright refusedBeyond() {
        Carcasswright shop = cutWithoutCauses();
        Calls.due(Calls.UNSUPPORTED, shop, "shift", 0, 9999);
        return shop;
    }

    private static Carcasswright refusedInCorner() {
        Carcasswright shop = Shop.room(4000, 4000);
        Shop.add(shop, "bd1");
        shop.place(0, 0, 3400, 0);
        Calls.due(Calls.UNSUPPORTED, shop, "place", 0, 1, 0, 0);
        return shop;
    }

    private static Carcasswright refusedByObstacle() {
        Carcasswright shop = cutWithoutCauses();
        shop.obstacle(0, 1000, 1001, 5, 6);
        Calls.due(Calls.UNSUPPORTED, shop, "shift", 0, 1000);
        return shop;
    }

    static void promise17_depths() {
        depth(RangesTest::cutWithoutCauses, 0, "clash");
        depth(RangesTest::refusedBeyond, 1, "clash");
        depth(RangesTest::refusedInCorner, 1, "clash");
        depth(RangesTest::refusedByObstacle, 2, "clash");
        depth(Shop::standard, 2, "clash");
    }

    static void promise18_depths() {
        depth(RangesTest::cutWithoutCauses, 0, "clashNumber");
        depth(RangesTest::refusedBeyond, 1, "clashNumber");
        depth(RangesTest::refusedInCorner, 1, "clashNumber");
        depth(RangesTest::refusedByObstacle, 2, "clashNumber");
        depth(Shop::standard, 2, "clashNumber");
    }

    static void promise19_indices() {
        index(Shop::standard, 3, 0, "from", 0);
        index(Shop::full, 16, 0, "from", 0);
    }

    static void promise20_indices() {
        index(Shop::standard, 4, 0, "free", 0, true);
        index(Shop::full, 6, 0, "free", 0, false);
    }

    static void promise21_indices() {
        index(Shop::standard, 4, 0, "widest", 0, true);
        index(Shop::full, 6, 0, "widest", 0, false);
    }

    static void promise22_indices() {
        index(Shop::standard, 3, 0, "parts", 0);
        index(Shop::full, 16, 0, "parts", 0);
    }

    private static Carcasswright mostParts() {
        return Shop.one("td2s9r9", 1);
    }

    static void promise23_indices() {
        index(Shop::standard, 3, 0, "kindOf", 0, 0);
        index(Shop::standard, 8, 1, "kindOf", 0, 0);
        index(Shop::full, 16, 0, "kindOf", 0, 0);
        index(Shop::full, 5, 1, "kindOf", 15, 0);
        index(RangesTest::mostParts, 25, 1, "kindOf", 0, 0);
    }

    static void promise24_indicesAndLetters() {
        index(Shop::standard, 3, 0, "size", 0, 0, 'l');
        index(Shop::standard, 8, 1, "size", 0, 0, 'l');
        index(RangesTest::mostParts, 25, 1, "size", 0, 0, 'w');
        letter(Shop::standard, "lwte", 2, "size", 0, 0, 'l');
        letter(RangesTest::mostParts, "lwte", 2, "size", 0, 24, 'l');
    }

    static void promise25_indices() {
        index(Shop::standard, 3, 0, "weight", 0, 0);
        index(Shop::standard, 8, 1, "weight", 0, 0);
        index(RangesTest::mostParts, 25, 1, "weight", 0, 0);
    }

    static void promise26_indices() {
        index(Shop::standard, 3, 0, "hinges", 0);
        index(Shop::full, 16, 0, "hinges", 0);
    }

    static void promise27_indices() {
        index(Shop::standard, 3, 0, "holes", 0, 0);
        index(Shop::standard, 8, 1, "holes", 0, 0);
        index(RangesTest::mostParts, 25, 1, "holes", 0, 0);
    }

    static void promise28_indicesAndLetters() {
        index(Shop::standard, 3, 0, "hole", 0, 0, 0, 'a');
        index(Shop::standard, 4, 2, "hole", 0, 0, 0, 'a');
        index(Shop::standard, 2, 2, "hole", 0, 7, 0, 'a');
        index(RangesTest::mostParts, 29, 2, "hole", 0, 0, 0, 'a');
        index(RangesTest::mostParts, 29, 2, "hole", 0, 1, 0, 'a');
        for (int part : new int[] {-1, 8, Integer.MIN_VALUE, Integer.MAX_VALUE}) {
            Refusals.due(Shop::standard, Calls.NO_INDEX, "hole", 0, part, 0, 'a');
        }
        for (int part : new int[] {2, 3, 4, 5}) {
            Refusals.due(Shop::standard, Calls.NO_INDEX, "hole", 0, part, 0, 'a');
        }
        letter(Shop::standard, "acw", 3, "hole", 0, 0, 0, 'a');
        letter(Shop::standard, "acw", 3, "hole", 0, 6, 1, 'a');
    }

    static void promise29_indices() {
        index(Shop::standard, 3, 0, "drills", 0, 0);
        index(Shop::standard, 8, 1, "drills", 0, 0);
        index(RangesTest::mostParts, 25, 1, "drills", 0, 0);
    }

    static void promise30_indices() {
        index(Shop::standard, 3, 0, "clamp", 0, 0, false);
        index(Shop::standard, 8, 1, "clamp", 0, 0, true);
        index(RangesTest::mostParts, 25, 1, "clamp", 0, 0, true);
    }

    static void promise31_ranges() {
        range(Shop::standard, 0, 2, 0, "addBoards", 0, 18, 700, 700, 1);
        range(Shop::standard, 8, 8, 1, "addBoards", 0, 8, 700, 700, 1);
        range(Shop::standard, 18, 18, 1, "addBoards", 0, 18, 700, 700, 1);
        range(Shop::standard, 300, 2800, 2, "addBoards", 0, 18, 700, 700, 1);
        range(Shop::standard, 300, 2100, 3, "addBoards", 0, 18, 700, 700, 1);
        range(Shop::standard, 1, 20, 4, "addBoards", 0, 18, 700, 700, 1);
        for (int thick : new int[] {0, 9, 10, 16, 80, -8, -18}) {
            Refusals.due(Shop::standard, Calls.BAD_ARGUMENT, "addBoards", 0, thick, 700, 700, 1);
        }
    }

    static void promise34_indicesAndLetters() {
        index(Shop::standard, Shop.standard().boards(), 0, "board", 0, 'l');
        index(Shop::full, 60, 0, "board", 0, 'l');
        letter(Shop::standard, "lwtc", 1, "board", 0, 'l');
        letter(Shop::full, "lwtc", 1, "board", 59, 'l');
    }

    static void promise35_indices() {
        index(Shop::standard, 3, 0, "uncut", 0);
        index(Shop::full, 16, 0, "uncut", 0);
    }

    static void promise36_indices() {
        index(Shop::standard, 3, 0, "cut", 0);
        index(Shop::full, 16, 0, "cut", 0);
    }

    static void promise37_indices() {
        index(Shop::standard, 3, 0, "lose", 0, 0);
        index(Shop::standard, 8, 1, "lose", 0, 0);
        index(Shop::full, 16, 0, "lose", 0, 0);
    }

    static void promise38_range() {
        range(Shop::standard, 0, 2, 0, "edged", 0);
    }

    static void promise39_ranges() {
        range(Shop::standard, 0, 2, 0, "setRate", 0, 1);
        range(Shop::standard, 0, 100, 1, "setRate", 0, 1);
    }

    static void promise40_indices() {
        index(Shop::standard, 3, 0, "price", 0);
        index(Shop::full, 16, 0, "price", 0);
    }

    static void promise41_ranges() {
        index(Shop::standard, 3, 0, "packs", 0, 9000);
        range(Shop::standard, 1, 99999, 1, "packs", 0, 9000);
    }

    static void promise42_ranges() {
        index(Shop::standard, 3, 0, "packOf", 0, 9000, 0);
        index(Shop::standard, 8, 2, "packOf", 0, 9000, 0);
        index(RangesTest::mostParts, 25, 2, "packOf", 0, 20000, 0);
        range(Shop::standard, 1, 99999, 1, "packOf", 0, 9000, 0);
    }

    static void promise43_indices() {
        index(Shop::standard, 3, 0, "stepAt", 0, 0);
        index(Shop::standard, 8, 1, "stepAt", 0, 0);
        index(RangesTest::mostParts, 25, 1, "stepAt", 0, 0);
    }

    static void promise44_ranges() {
        range(Shop::standard, 0, 2, 0, "job", 0, 5, 5);
        range(Shop::standard, 1, 99, 1, "job", 0, 5, 5);
        range(Shop::standard, 0, 999, 2, "job", 0, 5, 5);
    }

    static void promise45_range() {
        range(Shop::standard, 0, 99, 0, "setSetup", 5);
    }

    static void promise47_indices() {
        index(Shop::standard, 3, 0, "jobAt", 0);
        index(Shop::full, 6, 0, "jobAt", 0);
    }

    static void promise49_letters() {
        letter(Shop::standard, "cspdx", 0, "area", 'c');
    }

    private RangesTest() {
    }
}
