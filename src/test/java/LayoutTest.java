final class LayoutTest {
    private static void cause(Carcasswright shop, Object... lettersAndNumbers) {
        int depth = 0;
        for (int i = 0; i < lettersAndNumbers.length; i += 2) {
            Check.same("cause " + depth, lettersAndNumbers[i], shop.clash(depth));
            Check.same("number of cause " + depth, lettersAndNumbers[i + 1], shop.clashNumber(depth));
            depth++;
        }
        int deeper = depth;
        Check.noElement("cause too deep", () -> shop.clash(deeper));
        Check.noElement("number too deep", () -> shop.clashNumber(deeper));
    }

    static void promise14_place() {
        Carcasswright shop = Shop.room(3000, 2000);
        int base = Shop.add(shop, "b");
        Check.noIndex("type", () -> shop.place(1, 0, 0, 0));
        Check.noIndex("type below", () -> shop.place(-1, 0, 0, 0));
        Check.noIndex("wall", () -> shop.place(base, 2, 0, 0));
        Check.noIndex("wall first", () -> shop.place(base, -1, -1, 9));
        Check.badArgument("from", () -> shop.place(base, 0, -1, 0));
        Check.badArgument("from too far", () -> shop.place(base, 0, 10000, 0));
        Check.badArgument("colour", () -> shop.place(base, 0, 0, 3));
        Check.badArgument("colour below", () -> shop.place(base, 0, 0, -1));
        Check.same("first", 0, shop.place(base, 0, 0, 0));
        Check.same("beside", 1, shop.place(base, 0, 600, 2));
        Check.unsupported("from 9999", () -> shop.place(base, 0, 9999, 0));
        cause(shop, 'e', 7599);
        Check.same("two", 2, shop.modules());
    }

    static void promise14_sixteenModules() {
        Carcasswright shop = Shop.room(9999);
        int narrow = Shop.add(shop, "bw150");
        for (int i = 0; i < 16; i++) {
            Check.same("module", i, shop.place(narrow, 0, 150 * i, i % 3));
        }
        Check.badArgument("argument first", () -> shop.place(narrow, 0, 9000, 3));
        Check.badState("state ahead of refusal", () -> shop.place(narrow, 0, 0, 0));
        Check.noElement("no cause", () -> shop.clash(0));
    }

    static void promise14_beyondTheWall() {
        Carcasswright shop = Shop.room(1000, 900);
        int base = Shop.add(shop, "b");
        Shop.add(shop, "bw1200");
        Check.unsupported("one beyond", () -> shop.place(base, 0, 401, 0));
        cause(shop, 'e', 1);
        Check.same("just there", 0, shop.place(base, 0, 400, 0));
        shop.setOff(1, 20, 5);
        Check.unsupported("at the beginning", () -> shop.place(base, 1, 19, 0));
        cause(shop, 'e', 1);
        Check.unsupported("at the end", () -> shop.place(base, 1, 300, 0));
        cause(shop, 'e', 5);
        Check.unsupported("at both, the end more", () -> shop.place(1, 1, 0, 0));
        cause(shop, 'e', 305);
        shop.setOff(1, 60, 60);
        Carcasswright narrow = Shop.room(500);
        int wide = Shop.add(narrow, "bw500");
        narrow.setOff(0, 60, 5);
        Check.unsupported("at both, the beginning more", () -> narrow.place(wide, 0, 0, 0));
        cause(narrow, 'e', 60);
        Check.unsupported("at both, the end more", () -> narrow.place(wide, 0, 58, 0));
        cause(narrow, 'e', 63);
    }

    static void promise14_levels() {
        Carcasswright shop = Shop.room(5000);
        Shop.add(shop, "b");
        Shop.add(shop, "u");
        Shop.add(shop, "t");
        shop.place(0, 0, 0, 0);
        Check.same("upper over base", 1, shop.place(1, 0, 0, 0));
        Check.unsupported("tall", () -> shop.place(2, 0, 599, 0));
        cause(shop, 'o', 0, 'h', 0);
        shop.shift(0, 3000);
        Check.unsupported("tall and upper", () -> shop.place(2, 0, 599, 0));
        cause(shop, 'o', 1, 'h', 1400);
        Check.same("ends aside", 2, shop.place(2, 0, 600, 0));
        Check.unsupported("upper and tall", () -> shop.place(1, 0, 1199, 0));
        cause(shop, 'o', 2, 'h', 1400);
        Check.unsupported("the lowest one", () -> shop.place(2, 0, 300, 0));
        cause(shop, 'o', 1, 'h', 1400);
    }

    static void promise14_obstacles() {
        Carcasswright shop = Shop.room(5000, 5000);
        Shop.add(shop, "b");
        Shop.add(shop, "u");
        Shop.add(shop, "t");
        shop.obstacle(0, 1000, 1100, 820, 1400);
        shop.obstacle(0, 2000, 2100, 2000, 2101);
        shop.obstacle(0, 2050, 2200, 700, 1500);
        Check.same("below it", 0, shop.place(0, 0, 800, 0));
        Check.same("above it", 1, shop.place(1, 0, 800, 0));
        Check.unsupported("tall, at its top", () -> shop.place(2, 0, 1450, 0));
        cause(shop, 'p', 1, 'h', 2000);
        Check.unsupported("upper", () -> shop.place(1, 0, 1700, 0));
        cause(shop, 'p', 2, 'h', 1400);
        Check.unsupported("base", () -> shop.place(0, 0, 1700, 0));
        cause(shop, 'p', 2, 'h', 700);
        Check.same("not on the other wall", 2, shop.place(2, 1, 1700, 0));
        Check.same("ends aside", 3, shop.place(0, 0, 2200, 0));
        Check.unsupported("modules go ahead of obstacles", () -> shop.place(2, 0, 1000, 0));
        cause(shop, 'o', 0, 'h', 0);
    }

    static void promise14_heightsOfTheLevels() {
        String[] texts = {"b", "u", "t"};
        int[][] heights = {{0, 820}, {1400, 2000}, {0, 2100}};
        for (int i = 0; i < 3; i++) {
            Carcasswright shop = Shop.room(5000);
            int type = Shop.add(shop, texts[i]);
            shop.obstacle(0, 100, 200, heights[i][1], heights[i][1] + 1);
            if (heights[i][0] > 0) {
                shop.obstacle(0, 100, 200, heights[i][0] - 1, heights[i][0]);
            }
            Check.same("between, " + texts[i], 0, shop.place(type, 0, 0, 0));
            int top = shop.obstacle(0, 1100, 1200, heights[i][1] - 1, heights[i][1]);
            Check.unsupported("at its top, " + texts[i], () -> shop.place(type, 0, 1000, 0));
            cause(shop, 'p', top, 'h', heights[i][1] - 1);
            int bottom = shop.obstacle(0, 2100, 2200, heights[i][0], heights[i][0] + 1);
            Check.unsupported("at its bottom, " + texts[i], () -> shop.place(type, 0, 2000, 0));
            cause(shop, 'p', bottom, 'h', heights[i][0]);
        }
    }

    /** A first one on wall 0, so much ahead of its end, and a second one on wall 1, from a place on. */
    private static boolean standsInCorner(String first, int left, String second, int from) {
        Carcasswright shop = Shop.room(4000, 4000, 4000);
        int one = Shop.add(shop, first);
        int other = Shop.add(shop, second);
        int place = 4000 - left - shop.told(one, 'w');
        boolean isRefused = isRefusedAt(shop, one, place, other, from);
        Carcasswright turned = Shop.room(4000, 4000, 4000);
        Shop.add(turned, first);
        Shop.add(turned, second);
        turned.place(other, 1, from, 0);
        boolean isRefusedToo;
        try {
            turned.place(one, 0, place, 0);
            isRefusedToo = false;
        } catch (UnsupportedOperationException e) {
            isRefusedToo = true;
            cause(turned, 'd', 0);
        }
        Check.same("either way " + first + left + second + from, isRefused, isRefusedToo);
        return isRefused;
    }

    private static boolean isRefusedAt(Carcasswright shop, int one, int place, int other, int from) {
        shop.place(one, 0, place, 0);
        try {
            shop.place(other, 1, from, 0);
            return false;
        } catch (UnsupportedOperationException e) {
            cause(shop, 'd', 0);
            return true;
        }
    }

    static void promise14_corners() {
        Check.same("both have no doors", false, standsInCorner("b", 0, "b", 0));
        Check.same("the one has a door", true, standsInCorner("bd1", 0, "b", 0));
        Check.same("the other one has a door", true, standsInCorner("b", 0, "bd1", 0));
        Check.same("left as wide as the door", false, standsInCorner("bd2", 300, "b", 0));
        Check.same("left less than the door", true, standsInCorner("bd2", 299, "b", 0));
        Check.same("cut", false, standsInCorner("bw601d2", 300, "b", 0));
        Check.same("the other's door", true, standsInCorner("b", 0, "bd2", 299));
        Check.same("the other's door has place", false, standsInCorner("b", 0, "bd2", 300));
        Check.same("left less than depth and 60", true, standsInCorner("bw800d1", 619, "b", 0));
        Check.same("left as depth and 60", false, standsInCorner("bw800d1", 620, "b", 0));
        Check.same("place less than depth and 60", true, standsInCorner("bd1", 0, "b", 619));
        Check.same("place as depth and 60", false, standsInCorner("bd1", 0, "b", 620));
        Check.same("upper, the depth of the other one", true, standsInCorner("uw800d1", 379, "u", 0));
        Check.same("upper, behind it", false, standsInCorner("uw800d1", 380, "u", 0));
        Check.same("tall and upper, depth of upper", false, standsInCorner("tw800d1", 380, "u", 0));
        Check.same("tall and upper, depth of tall", true, standsInCorner("tw800d1", 379, "u", 619));
        Check.same("upper and tall, depth of tall", true, standsInCorner("uw800d1", 619, "t", 379));
        Check.same("upper and tall, depth of upper", false, standsInCorner("uw800d1", 619, "t", 380));
        Check.same("no height in common", false, standsInCorner("bd1", 0, "ud1", 0));
    }

    static void promise14_cornersOfTheRoom() {
        Carcasswright one = Shop.room(1260);
        Shop.add(one, "bd1");
        one.place(0, 0, 0, 0);
        Check.same("one wall has no corner", 1, one.place(0, 0, 660, 0));
        Carcasswright two = Shop.room(1300, 4000);
        Shop.add(two, "bd1");
        two.place(0, 0, 0, 0);
        Check.unsupported("the last wall's end is next to the first one", () -> two.place(0, 1, 3400, 0));
        cause(two, 'd', 0);
        Check.same("the first wall's end has place", 1, two.place(0, 1, 0, 0));
        Carcasswright three = Shop.room(4000, 4000, 4000);
        Shop.add(three, "bd1");
        three.place(0, 0, 0, 0);
        three.place(0, 0, 3400, 0);
        Check.unsupported("last to first", () -> three.place(0, 2, 3400, 0));
        cause(three, 'd', 0);
        Check.unsupported("first to second", () -> three.place(0, 1, 0, 0));
        cause(three, 'd', 1);
        Check.same("not to the one behind", 2, three.place(0, 2, 0, 0));
        Check.unsupported("second to third", () -> three.place(0, 1, 3400, 0));
        cause(three, 'd', 2);
        Carcasswright both = Shop.room(4000, 600, 4000);
        Shop.add(both, "bd1");
        both.place(0, 2, 0, 0);
        both.place(0, 0, 3400, 0);
        Check.unsupported("in both corners: the lowest one", () -> both.place(0, 1, 0, 0));
        cause(both, 'd', 0);
        // how far a wall is off does not count in corners
        Carcasswright off = Shop.room(4000, 4000);
        Shop.add(off, "bd2");
        off.setOff(0, 0, 60);
        off.place(0, 0, 3100, 0);
        Check.same("300 are left", 1, off.place(0, 1, 300, 0));
    }

    static void promise15_shift() {
        Carcasswright shop = Shop.room(3000);
        Shop.add(shop, "b");
        shop.place(0, 0, 0, 0);
        shop.place(0, 0, 1000, 0);
        Check.same("place before", 0, shop.shift(0, 30));
        Check.same("over itself", 30, shop.shift(0, 400));
        Check.unsupported("into the other one", () -> shop.shift(0, 401));
        cause(shop, 'o', 1, 'h', 0);
        Check.same("stays", 400, shop.from(0));
        Check.unsupported("beyond", () -> shop.shift(1, 2401));
        cause(shop, 'e', 1);
        Check.same("to the end", 1000, shop.shift(1, 2400));
        Check.noIndex("module", () -> shop.shift(2, 0));
        Check.noIndex("index first", () -> shop.shift(-1, -1));
        Check.badArgument("from", () -> shop.shift(0, -1));
        Check.badArgument("too far", () -> shop.shift(0, 10000));
        Check.same("cause stays", 'e', shop.clash(0));
    }

    static void promise16_change() {
        Carcasswright shop = Shop.room(3000);
        Shop.add(shop, "b");
        Shop.add(shop, "bw1000");
        Shop.add(shop, "t");
        Shop.add(shop, "u");
        shop.place(0, 0, 0, 0);
        shop.place(0, 0, 900, 0);
        shop.place(3, 0, 2000, 0);
        Check.unsupported("too wide", () -> shop.change(0, 1));
        cause(shop, 'o', 1, 'h', 0);
        Check.same("still as wide", 600.0, shop.meanWidth());
        Check.same("wider where there is place", 0, shop.change(1, 1));
        Check.same("all widths", 2200.0 / 3, shop.meanWidth());
        shop.shift(2, 1200);
        Check.unsupported("tall below upper", () -> shop.change(1, 2));
        cause(shop, 'o', 2, 'h', 1400);
        shop.shift(2, 1900);
        Check.same("to base, beside the one", 0, shop.change(2, 0));
        shop.shift(2, 2400);
        Check.unsupported("beyond", () -> shop.change(2, 1));
        cause(shop, 'e', 400);
        shop.obstacle(0, 2400, 2401, 900, 901);
        Check.unsupported("an obstacle", () -> shop.change(2, 2));
        cause(shop, 'p', 0, 'h', 900);
        Check.same("base below the obstacle", 0, shop.change(2, 0));
        Check.same("widths at last", 2200.0 / 3, shop.meanWidth());
    }

    static void promise16_changeInCorners() {
        Carcasswright shop = Shop.room(4000, 4000);
        Shop.add(shop, "b");
        Shop.add(shop, "bd1");
        Shop.add(shop, "ud1");
        shop.place(0, 0, 3400, 0);
        shop.place(0, 1, 0, 0);
        Check.unsupported("a door comes", () -> shop.change(1, 1));
        cause(shop, 'd', 0);
        Check.same("not at another height", 0, shop.change(1, 2));
    }

    static void promise16_changeKeepsWhatIsAlike() {
        Carcasswright shop = Shop.room(3000);
        Shop.add(shop, "bd2s2");
        Shop.add(shop, "bd2s1");
        Shop.add(shop, "bd1s1");
        Shop.add(shop, "ud2s1");
        Shop.add(shop, "bd2s1r1");
        shop.place(0, 0, 0, 1);
        shop.addBoards(0, 18, 2800, 2070, 3);
        shop.addBoards(0, 8, 2800, 2070, 3);
        shop.addBoards(1, 18, 2800, 2070, 3);
        Check.same("nothing is cut", 0, shop.change(0, 1));
        shop.change(0, 0);
        shop.cut(0);
        Check.same("to the same", 0, shop.change(0, 0));
        Check.same("one shelf less", 1, shop.change(0, 1));
        Check.same("it is scrap", 562L * 540, shop.area('x'));
        Check.same("all is cut", 0, shop.uncut(0));
        Check.same("one shelf more", 0, shop.change(0, 0));
        Check.same("is to be cut", 1, shop.uncut(0));
        Check.same("another door", 2, shop.change(0, 2));
        Check.same("scrap", 562L * 540 + 2 * 716 * 297, shop.area('x'));
        Check.same("the door is to be cut", 1, shop.uncut(0));
        Check.same("a drawer: shorter doors and a front", 0, shop.change(0, 4));
        Check.same("three to be cut", 3, shop.uncut(0));
        Check.same("back to two doors: they are scrap already", 0, shop.change(0, 1));
        Check.same("all but the doors", 2, shop.uncut(0));
        Check.same("an upper one keeps nothing", 6, shop.change(0, 3));
        Check.same("all to be cut", 8, shop.uncut(0));
        Check.noIndex("module", () -> shop.change(1, 0));
        Check.noIndex("type", () -> shop.change(0, 5));
        Check.noIndex("type below", () -> shop.change(0, -1));
        Check.same("sound", true, shop.isSound());
    }

    static void promise17_clash() {
        Carcasswright shop = Shop.room(3000);
        Shop.add(shop, "b");
        Check.noElement("nothing refused", () -> shop.clash(0));
        Check.noElement("below", () -> shop.clash(-1));
        shop.place(0, 0, 0, 0);
        Check.unsupported("refused", () -> shop.place(0, 0, 9, 0));
        cause(shop, 'o', 0, 'h', 0);
        Check.noElement("below", () -> shop.clash(-1));
        shop.place(0, 0, 600, 0);
        cause(shop, 'o', 0, 'h', 0);
        Check.noIndex("no module", () -> shop.shift(9, 0));
        Check.unsupported("no boards are not a refusal", () -> shop.cut(0));
        cause(shop, 'o', 0, 'h', 0);
        Check.unsupported("beyond", () -> shop.change(1, 0) + shop.shift(1, 2500));
        cause(shop, 'e', 100);
    }

    static void promise18_clashNumber() {
        Carcasswright shop = Shop.room(3000);
        Shop.add(shop, "b");
        Check.noElement("nothing refused", () -> shop.clashNumber(0));
        Check.noElement("below", () -> shop.clashNumber(-1));
        Check.noElement("far", () -> shop.clashNumber(Integer.MAX_VALUE));
        Check.unsupported("refused", () -> shop.place(0, 0, 2500, 0));
        Check.same("number", 100, shop.clashNumber(0));
        Check.noElement("one cause only", () -> shop.clashNumber(1));
    }

    static void promise19_from() {
        Carcasswright shop = Shop.room(3000);
        Shop.add(shop, "b");
        shop.place(0, 0, 7, 0);
        Check.same("place", 7, shop.from(0));
        shop.shift(0, 8);
        Check.same("place", 8, shop.from(0));
        Check.noIndex("none", () -> shop.from(1));
        Check.noIndex("below", () -> shop.from(-1));
    }

    static void promise20_free() {
        Carcasswright shop = gaps();
        Check.same("below", 5000 - 600 - 300, shop.free(0, false));
        Check.same("above", 5000 - 900 - 300, shop.free(0, true));
        Check.same("other wall", 2000, shop.free(1, true));
        Check.noIndex("wall", () -> shop.free(2, true));
        Check.noIndex("wall below", () -> shop.free(-1, true));
        Carcasswright full = Shop.room(600);
        Shop.add(full, "b");
        full.place(0, 0, 0, 0);
        Check.same("full", 0, full.free(0, false));
    }

    static void promise21_widest() {
        Carcasswright shop = gaps();
        // below: base 100 to 700, tall 3000 to 3300; above: upper 4000 to 4900, tall
        Check.same("below", 2300, shop.widest(0, false));
        Check.same("above", 3000, shop.widest(0, true));
        shop.shift(2, 3300);
        Check.same("above, two side by side", 3000, shop.widest(0, true));
        shop.shift(1, 2500);
        Check.same("below, behind the last one", 2200, shop.widest(0, false));
        Check.same("other wall", 2000, shop.widest(1, false));
        Check.noIndex("wall", () -> shop.widest(2, true));
        Check.noIndex("wall below", () -> shop.widest(-1, true));
        Carcasswright full = Shop.room(600);
        Shop.add(full, "b");
        full.place(0, 0, 0, 0);
        Check.same("full", 0, full.widest(0, false));
        Check.same("above it", 600, full.widest(0, true));
    }

    private static Carcasswright gaps() {
        Carcasswright shop = Shop.room(5000, 2000);
        Shop.add(shop, "b");
        Shop.add(shop, "tw300");
        Shop.add(shop, "uw900");
        shop.setOff(0, 50, 50);
        shop.obstacle(0, 3500, 3600, 2100, 3000);
        shop.place(0, 0, 100, 0);
        shop.place(1, 0, 3000, 0);
        shop.place(2, 0, 4000, 0);
        return shop;
    }

    private LayoutTest() {
    }
}
