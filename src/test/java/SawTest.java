final class SawTest {
    static void stock(Carcasswright shop, int... sizes) {
        Check.same("boards", sizes.length / 2, shop.boards());
        for (int i = 0; i < sizes.length / 2 && i < shop.boards(); i++) {
            Check.same("length of board " + i, sizes[2 * i], shop.board(i, 'l'));
            Check.same("width of board " + i, sizes[2 * i + 1], shop.board(i, 'w'));
        }
        long all = shop.area('s') + shop.area('p') + shop.area('d') + shop.area('x');
        Check.same("all that came", shop.area('c'), all);
        Check.same("sound", true, shop.isSound());
    }

    static void promise31_addBoards() {
        Carcasswright shop = new Carcasswright();
        Check.badArgument("colour", () -> shop.addBoards(3, 18, 300, 300, 1));
        Check.badArgument("colour below", () -> shop.addBoards(-1, 18, 300, 300, 1));
        Check.badArgument("thickness", () -> shop.addBoards(0, 17, 300, 300, 1));
        Check.badArgument("thickness 0", () -> shop.addBoards(0, 0, 300, 300, 1));
        Check.badArgument("length", () -> shop.addBoards(0, 18, 299, 300, 1));
        Check.badArgument("too long", () -> shop.addBoards(0, 18, 2801, 300, 1));
        Check.badArgument("width", () -> shop.addBoards(0, 18, 300, 299, 1));
        Check.badArgument("too wide", () -> shop.addBoards(0, 18, 300, 2101, 1));
        Check.badArgument("none", () -> shop.addBoards(0, 18, 300, 300, 0));
        Check.badArgument("too many", () -> shop.addBoards(0, 18, 300, 300, 21));
        Check.badArgument("far too many", () -> shop.addBoards(0, 18, 300, 300, Integer.MAX_VALUE));
        Check.same("nothing came", 0, shop.area('c'));
        Check.same("20", 20, shop.addBoards(0, 18, 300, 300, 20));
        Check.same("40", 40, shop.addBoards(2, 8, 2800, 2100, 20));
        Check.same("59", 59, shop.addBoards(1, 8, 2800, 2100, 19));
        Check.badState("61", () -> shop.addBoards(1, 8, 2800, 2100, 2));
        Check.badArgument("argument first", () -> shop.addBoards(1, 8, 2801, 2100, 2));
        Check.same("60", 60, shop.addBoards(1, 8, 2800, 2100, 1));
        Check.badState("one more", () -> shop.addBoards(1, 8, 300, 300, 1));
        Check.same("came", 20 * 90000L + 40 * 5880000L, shop.area('c'));
    }

    static void promise32_boards() {
        Carcasswright shop = Shop.one("b", 0);
        Check.same("none", 0, shop.boards());
        shop.addBoards(0, 18, 2800, 2070, 2);
        Check.same("two", 2, shop.boards());
        shop.addBoards(0, 8, 716, 596, 1);
        shop.cut(0);
        Check.same("a board and an offcut", 2, shop.boards());
        Check.same("the board goes ahead", 2070, shop.board(0, 'w'));
    }

    static void promise33_offcuts() {
        Carcasswright shop = Shop.one("b", 0);
        shop.addBoards(0, 18, 2800, 2070, 2);
        shop.addBoards(0, 8, 716, 596, 1);
        Check.same("boards are none", 0, shop.offcuts());
        shop.cut(0);
        Check.same("one", 1, shop.offcuts());
        shop.addBoards(0, 18, 300, 300, 1);
        Check.same("still one", 1, shop.offcuts());
        Carcasswright only = Shop.one("b", 0);
        only.addBoards(0, 18, 2800, 2070, 1);
        only.addBoards(0, 8, 716, 596, 1);
        only.cut(0);
        Check.same("nothing but one", 1, only.offcuts());
    }

    static void promise34_board() {
        Carcasswright shop = new Carcasswright();
        shop.addBoards(1, 18, 2800, 2070, 1);
        shop.addBoards(2, 8, 301, 302, 1);
        Check.same("length", 2800, shop.board(0, 'l'));
        Check.same("width", 2070, shop.board(0, 'w'));
        Check.same("thickness", 18, shop.board(0, 't'));
        Check.same("colour", 1, shop.board(0, 'c'));
        Check.same("length", 301, shop.board(1, 'l'));
        Check.same("width", 302, shop.board(1, 'w'));
        Check.same("thickness", 8, shop.board(1, 't'));
        Check.same("colour", 2, shop.board(1, 'c'));
        Check.noIndex("index first", () -> shop.board(2, 'x'));
        Check.noIndex("below", () -> shop.board(-1, 'l'));
        Check.badArgument("letter", () -> shop.board(0, 'x'));
    }

    static void promise35_uncut() {
        Carcasswright shop = Shop.one("bs1", 0);
        Check.same("all", 6, shop.uncut(0));
        shop.addBoards(0, 18, 2800, 2070, 2);
        shop.addBoards(0, 8, 716, 596, 1);
        shop.cut(0);
        Check.same("none", 0, shop.uncut(0));
        shop.lose(0, 2);
        Check.same("one", 1, shop.uncut(0));
        Check.noIndex("module", () -> shop.uncut(1));
        Check.noIndex("module below", () -> shop.uncut(-1));
    }

    static void promise36_cutJustFits() {
        Carcasswright shop = Shop.one("b", 0);
        // two sides and 4 between; the bottom, and the top 4 behind it; the back
        shop.addBoards(0, 18, 1444, 560, 1);
        shop.addBoards(0, 18, 564, 664, 1);
        shop.addBoards(0, 8, 716, 596, 1);
        Check.same("three boards", 3, shop.cut(0));
        stock(shop);
        Check.same("dust", 4 * 560 + 4 * 564, shop.area('d'));
        Check.noElement("all is cut", () -> shop.cut(0));
        for (int[] sizes : new int[][] {{1443, 664, 716}, {1444, 663, 716}, {1444, 664, 715}}) {
            Carcasswright other = Shop.one("b", 0);
            other.addBoards(0, 18, sizes[0], 560, 1);
            other.addBoards(0, 18, 564, sizes[1], 1);
            other.addBoards(0, 8, sizes[2], 596, 1);
            Check.unsupported("1 less", () -> other.cut(0));
            stock(other, sizes[0], 560, 564, sizes[1], sizes[2], 596);
            Check.same("nothing is cut", 5, other.uncut(0));
        }
        Check.noIndex("module", () -> shop.cut(1));
        Check.noIndex("module below", () -> shop.cut(-1));
    }

    static void promise36_offcutsFirst() {
        // sides of 720 times 560, a bottom and a top of 364 times 560 and 100, a back of 716 times 396
        Carcasswright shop = Shop.one("bw400", 0);
        shop.addBoards(0, 18, 2800, 2070, 1);
        shop.addBoards(0, 18, 600, 600, 1);
        shop.addBoards(0, 8, 716, 396, 1);
        Check.same("two boards", 2, shop.cut(0));
        stock(shop, 600, 600, 420, 560, 2800, 1506);
        Check.same("offcuts", 2, shop.offcuts());
        shop.lose(0, 3);
        Check.same("the top again", 1, shop.cut(0));
        stock(shop, 600, 600, 2800, 1506, 420, 456);
        shop.lose(0, 0);
        Check.same("the side again", 1, shop.cut(0));
        stock(shop, 600, 600, 420, 456, 2076, 560, 2800, 942);
        shop.lose(0, 3);
        shop.cut(0);
        stock(shop, 600, 600, 2076, 560, 2800, 942, 420, 352);
        shop.lose(0, 3);
        shop.cut(0);
        // 248 are left below: dust
        stock(shop, 600, 600, 2076, 560, 2800, 942);
        Check.same("offcuts", 2, shop.offcuts());
        shop.lose(0, 2);
        shop.cut(0);
        stock(shop, 600, 600, 2800, 942, 1512, 364);
    }

    static void promise36_offcutsOfLeastSize() {
        Carcasswright shop = Shop.one("b", 0);
        // of the bottom's board 300 are left both ways, behind 4
        shop.addBoards(0, 18, 1444, 560, 1);
        shop.addBoards(0, 18, 868, 968, 1);
        shop.addBoards(0, 8, 1020, 900, 1);
        shop.cut(0);
        stock(shop, 300, 560, 868, 300, 300, 596, 1020, 300);
        Carcasswright less = Shop.one("b", 0);
        less.addBoards(0, 18, 1444, 560, 1);
        less.addBoards(0, 18, 867, 967, 1);
        less.addBoards(0, 8, 1019, 899, 1);
        less.cut(0);
        stock(less);
    }

    static void promise36_noPlaceForOffcuts() {
        Carcasswright shop = Shop.one("bw400", 0);
        shop.addBoards(0, 8, 2800, 2070, 20);
        shop.addBoards(0, 18, 2800, 2070, 20);
        shop.addBoards(1, 18, 500, 500, 20);
        Check.same("two boards", 2, shop.cut(0));
        Check.same("60 again", 60, shop.boards());
        Check.same("two offcuts of four", 2, shop.offcuts());
        Check.same("strips first", 420, shop.board(58, 'l'));
        Check.same("of the first board", 18, shop.board(58, 't'));
        Check.same("then below", 1506, shop.board(59, 'w'));
        long parts = shop.area('p');
        Check.same("dust", 2 * 2800 * 2070 - parts - 420 * 560 - 2800 * 1506, shop.area('d'));
        Check.same("sound", true, shop.isSound());
    }

    static void promise36_grain() {
        // the bottom of 364 times 560 and the back of 716 times 396 can turn; sides and doors cannot
        Carcasswright shop = Shop.one("bw400d1", 1);
        // strips of 560, 560, 364 and 100, and 4 between
        shop.addBoards(0, 18, 720, 1596, 1);
        shop.addBoards(0, 8, 716, 396, 1);
        shop.addBoards(1, 18, 716, 397, 1);
        Check.same("three", 3, shop.cut(0));
        stock(shop);
        Carcasswright turned = Shop.one("bw400d1", 1);
        turned.addBoards(0, 18, 720, 1596, 1);
        turned.addBoards(0, 8, 716, 396, 1);
        turned.addBoards(1, 18, 397, 716, 1);
        Check.unsupported("a door has grain", () -> turned.cut(0));
        Carcasswright wide = Shop.one("tw1200", 1);
        // back 2096 times 1196, bottom and top 1164 times 560
        wide.addBoards(0, 18, 2100, 1700, 1);
        wide.addBoards(0, 18, 1164, 560, 1);
        wide.addBoards(0, 8, 2096, 1196, 1);
        Check.same("with three", 3, wide.cut(0));
    }

    static void promise36_twoDoorsAreCutAsOne() {
        Carcasswright shop = Shop.one("bd2", 1);
        shop.addBoards(0, 18, 2800, 2070, 1);
        shop.addBoards(0, 8, 716, 596, 1);
        shop.addBoards(1, 18, 1440, 597, 1);
        Check.unsupported("297, 4 and 297", () -> shop.cut(0));
        shop.addBoards(1, 18, 716, 598, 1);
        long dust = shop.area('d');
        Check.same("no dust by what was refused", 0, dust);
        Check.same("three", 3, shop.cut(0));
        stock(shop, 1440, 597, 2800, 1506);
        shop.lose(0, 6);
        Check.same("one door by itself", 1, shop.cut(0));
        stock(shop, 2800, 1506);
    }

    static void promise36_boardsInTheOrderOfTheStock() {
        Carcasswright shop = Shop.one("b", 1);
        shop.addBoards(0, 8, 2000, 700, 1);
        shop.addBoards(0, 8, 800, 700, 1);
        shop.addBoards(1, 18, 2800, 2070, 1);
        shop.addBoards(0, 18, 700, 2070, 1);
        shop.addBoards(0, 18, 720, 1124, 2);
        shop.addBoards(0, 18, 2800, 2070, 1);
        // sides on the first board of 720, bottom and top on that of 700, in which a side has no place
        Check.same("boards", 3, shop.cut(0));
        stock(shop, 800, 700, 2800, 2070, 720, 1124, 2800, 2070, 700, 1402, 1280, 596);
    }

    static void promise36_intoTheFirstBoardWithPlace() {
        Carcasswright shop = Shop.one("bs2", 1);
        shop.addBoards(0, 8, 716, 596, 1);
        shop.addBoards(0, 18, 724, 564 + 104, 1);
        shop.addBoards(0, 18, 2800, 900, 1);
        // one side and the top on the first board, all others on the second one, shelves in the strip of the side
        Check.same("boards", 3, shop.cut(0));
        stock(shop, 376, 560, 2800, 336);
    }

    static void promise36_aBoardForEachPiece() {
        // 25 parts, two doors as one: doors, fronts, sides, bottom and top, shelves, back
        Carcasswright shop = Shop.one("td2s9r9", 0);
        shop.addBoards(0, 18, 2100, 560, 2);
        shop.addBoards(0, 18, 564, 560, 2);
        shop.addBoards(0, 18, 562, 540, 9);
        shop.addBoards(0, 18, 476, 598, 1);
        shop.addBoards(0, 18, 300, 596, 9);
        shop.addBoards(0, 8, 2096, 596, 1);
        Check.same("boards", 24, shop.cut(0));
        stock(shop);
        Check.same("dust", 9 * 124 * 596 + 476 * 4, shop.area('d'));
        Check.same("all is cut", 1.0f, shop.cutShare());
    }

    static void promise37_lose() {
        Carcasswright shop = Shop.one("bd2s2", 1);
        Check.unsupported("none is cut", () -> shop.lose(0, 0));
        shop.addBoards(0, 18, 2800, 2070, 1);
        shop.addBoards(0, 8, 716, 596, 1);
        shop.addBoards(1, 18, 716, 598, 1);
        shop.cut(0);
        Check.same("first side", 8, shop.lose(0, 0));
        Check.same("again: the one alike", 7, shop.lose(0, 0));
        Check.unsupported("none is left", () -> shop.lose(0, 1));
        Check.same("scrap", 2 * 720 * 560, shop.area('x'));
        Check.same("bottom", 6, shop.lose(0, 2));
        Check.unsupported("no other is alike", () -> shop.lose(0, 2));
        Check.same("second door", 5, shop.lose(0, 8));
        Check.same("second door again", 4, shop.lose(0, 8));
        Check.same("scrap", 2 * 720 * 560 + 564 * 560 + 2 * 716 * 297, shop.area('x'));
        Check.same("to be cut", 5, shop.uncut(0));
        Check.noIndex("part", () -> shop.lose(0, 9));
        Check.noIndex("part below", () -> shop.lose(0, -1));
        Check.noIndex("module", () -> shop.lose(1, 0));
        Check.same("sound", true, shop.isSound());
    }

    private SawTest() {
    }
}
