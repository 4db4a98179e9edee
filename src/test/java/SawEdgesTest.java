import java.util.function.Supplier;

/** The edges of what the document says of boards, the saw and changes, sentence by sentence. */
final class SawEdgesTest {
    /** Lengths and widths of all boards of a thickness and colour, in the order of the stock. */
    private static void stock(Carcasswright shop, int thick, int colour, int... due) {
        StringBuilder got = new StringBuilder();
        for (int board = 0; board < shop.boards(); board++) {
            if (shop.board(board, 't') == thick && shop.board(board, 'c') == colour) {
                got.append(shop.board(board, 'l')).append('x').append(shop.board(board, 'w')).append(' ');
            }
        }
        StringBuilder wanted = new StringBuilder();
        for (int i = 0; i < due.length; i += 2) {
            wanted.append(due[i]).append('x').append(due[i + 1]).append(' ');
        }
        Check.same("stock of " + thick + ", colour " + colour, wanted.toString(), got.toString());
        long all = shop.area('s') + shop.area('p') + shop.area('d') + shop.area('x');
        Check.same("all that came", shop.area('c'), all);
        Check.same("sound", true, shop.isSound());
    }

    /** A base module of 600 for whose sides, bottom and top there are boards of just their size. */
    private static Carcasswright base(int... boardsForBacks) {
        Carcasswright shop = Shop.one("b", 0);
        shop.addBoards(0, 18, 1444, 560, 1);
        shop.addBoards(0, 18, 564, 664, 1);
        for (int i = 0; i < boardsForBacks.length; i += 2) {
            shop.addBoards(0, 8, boardsForBacks[i], boardsForBacks[i + 1], 1);
        }
        return shop;
    }

    private static void cutBackAgain(Carcasswright shop, int opened, int... due) {
        shop.lose(0, 4);
        Check.same("opened", opened, shop.cut(0));
        stock(shop, 8, 0, due);
    }

    static void promise36_offcutsAreStockAgain() {
        Carcasswright shop = base(2800, 2070);
        Check.same("opened", 3, shop.cut(0));
        stock(shop, 8, 0, 2080, 596, 2800, 1470);
        cutBackAgain(shop, 1, 2800, 1470, 1360, 596);
        cutBackAgain(shop, 1, 2800, 1470, 640, 596);
        cutBackAgain(shop, 1, 640, 596, 2080, 596, 2800, 870);
        cutBackAgain(shop, 1, 640, 596, 2800, 870, 1360, 596);
        cutBackAgain(shop, 1, 640, 596, 2800, 870, 640, 596);
        // of 2800 by 870 there are 270 left below: dust
        cutBackAgain(shop, 1, 640, 596, 640, 596, 2080, 596);
        cutBackAgain(shop, 1, 640, 596, 640, 596, 1360, 596);
        cutBackAgain(shop, 1, 640, 596, 640, 596, 640, 596);
        shop.lose(0, 4);
        Check.unsupported("in none of three there is place for 716", () -> shop.cut(0));
        stock(shop, 8, 0, 640, 596, 640, 596, 640, 596);
        Check.same("all are offcuts", 3, shop.offcuts());
    }

    static void promise36_offcutsAheadOfBoards() {
        Carcasswright shop = base(2800, 2070, 716, 596);
        shop.cut(0);
        stock(shop, 8, 0, 716, 596, 2080, 596, 2800, 1470);
        // the board is ahead in the stock, and smaller, and would just fit
        cutBackAgain(shop, 1, 716, 596, 2800, 1470, 1360, 596);
        Check.same("two of three are offcuts", 2, shop.offcuts());
    }

    static void promise36_boardsInTheOrderOfTheStock() {
        Carcasswright shop = base(715, 2100, 2800, 595, 2800, 2070, 716, 596, 2000, 1000);
        shop.cut(0);
        // the first two have no place for 716 by 596, though one is wider, the other longer
        stock(shop, 8, 0, 715, 2100, 2800, 595, 716, 596, 2000, 1000, 2080, 596, 2800, 1470);
    }

    /** Two base modules whose backs leave offcuts of two sizes, and an upper one whose back fits both. */
    private static Carcasswright backs(int firstLength, int secondLength, boolean isTurned) {
        Carcasswright shop = Shop.room(4000);
        shop.place(Shop.add(shop, "bw604"), 0, 0, 0);
        shop.place(Shop.add(shop, "bw644"), 0, 1000, 0);
        shop.place(Shop.add(shop, "u"), 0, 0, 0);
        shop.addBoards(0, 18, 2800, 2070, 6);
        shop.addBoards(0, 8, firstLength, 600, 1);
        shop.addBoards(0, 8, secondLength, 640, 1);
        shop.cut(isTurned ? 1 : 0);
        shop.cut(isTurned ? 0 : 1);
        return shop;
    }

    static void promise36_lessAreaFirst() {
        Carcasswright shop = backs(1361, 1320, false);
        stock(shop, 8, 0, 641, 600, 600, 640);
        shop.cut(2);
        stock(shop, 8, 0, 641, 600);
        Carcasswright other = backs(1360, 1321, false);
        stock(other, 8, 0, 640, 600, 601, 640);
        other.cut(2);
        stock(other, 8, 0, 601, 640);
    }

    static void promise36_asMuchAreaInTheOrderOfTheStock() {
        Carcasswright shop = backs(1360, 1320, false);
        stock(shop, 8, 0, 640, 600, 600, 640);
        shop.cut(2);
        stock(shop, 8, 0, 600, 640);
        Carcasswright turned = backs(1360, 1320, true);
        stock(turned, 8, 0, 600, 640, 640, 600);
        turned.cut(2);
        stock(turned, 8, 0, 640, 600);
    }

    /** What is left of a board from which a back of 716 is cut, 4 less wide than the module. */
    private static void offcutsOfBack(int width, int boardLength, int boardWidth, int... due) {
        Carcasswright shop = Shop.one("bw" + width, 0);
        shop.addBoards(0, 18, 2800, 2070, 2);
        shop.addBoards(0, 8, boardLength, boardWidth, 1);
        shop.cut(0);
        stock(shop, 8, 0, due);
    }

    static void promise36_offcutsOf300BothWays() {
        // backs of 716 by 300 and by 299
        offcutsOfBack(304, 1020, 300, 300, 300);
        offcutsOfBack(304, 1019, 300);
        offcutsOfBack(303, 1020, 300);
        offcutsOfBack(303, 2800, 300);
        offcutsOfBack(304, 2800, 604, 2080, 300, 2800, 300);
        offcutsOfBack(304, 2800, 603, 2080, 300);
        offcutsOfBack(303, 2800, 603, 2800, 300);
        offcutsOfBack(303, 2800, 602);
        offcutsOfBack(304, 716, 604, 716, 300);
        offcutsOfBack(304, 716, 603);
        offcutsOfBack(304, 719, 300);
        offcutsOfBack(304, 716, 303);
    }

    private static Carcasswright faces(String text, int... lengthsAndWidths) {
        Carcasswright shop = Shop.one(text, 1);
        shop.addBoards(0, 18, 2800, 2070, 4);
        shop.addBoards(0, 8, 2800, 2070, 2);
        for (int i = 0; i < lengthsAndWidths.length; i += 2) {
            shop.addBoards(1, 18, lengthsAndWidths[i], lengthsAndWidths[i + 1], 1);
        }
        return shop;
    }

    /** All faces are cut of just these boards, of which each one size less would not do. */
    private static void justFit(String text, int... lengthsAndWidths) {
        Carcasswright shop = faces(text, lengthsAndWidths);
        shop.cut(0);
        stock(shop, 18, 1);
        for (int i = 0; i < lengthsAndWidths.length; i++) {
            if (lengthsAndWidths[i] > 300) {
                int[] less = lengthsAndWidths.clone();
                less[i]--;
                Refusals.due(() -> faces(text, less), Calls.UNSUPPORTED, "cut", 0);
            }
        }
    }

    static void promise36_withFourBetween() {
        // three fronts of 176 by 596 behind each other, or each in a strip of its own, or two and one
        justFit("br3", 536, 596);
        justFit("br2", 356, 596);
        justFit("br2", 300, 1196);
        justFit("br3", 300, 1796);
        justFit("br3", 356, 1196);
        // a door of 536 by 597 and a front of 176 by 596, which has place in the wider strip
        justFit("bd1r1", 716, 597);
        // two doors of 297, 4 between
        justFit("bd2", 716, 598);
        justFit("bd2r1", 716, 598);
        justFit("ud2", 596, 598);
        justFit("td1", 2096, 597);
    }

    /** Fronts go into the strip of doors that is as wide as they are, or wider. */
    static void promise36_stripsAsWideOrWider() {
        // falling widths: the door's strip of 597 takes two fronts of 596
        justFit("bd1r2", 356 + 4 + 176 + 4 + 176, 597);
        // two doors of 598 together: no wider than 598, and no strip for a front of 596 of a module of 600
        justFit("bd2r1", 536 + 4 + 176, 598);
        // of a module of 601 two doors are 2 * 297 and 4, 598 again, and its front is 597
        justFit("bw601d2r1", 536 + 4 + 176, 598);
        // of a module of 602 they are 600, the front 598
        justFit("bw602d2r1", 536 + 4 + 176, 600);
        // a module of 601 with one door: 598, and fronts of 597
        justFit("bw601d1r1", 716, 598);
    }

    static void promise36_intoTheFirstStripWithPlace() {
        // three strips would be 1796 wide: two fronts of three have place behind each other in each strip of 380
        Carcasswright shop = faces("br3", 380, 2000);
        shop.cut(0);
        // below two strips of 596 there are 800 left
        stock(shop, 18, 1, 380, 800);
        Carcasswright longer = faces("br3", 700, 2000);
        longer.cut(0);
        // in one strip all three; 160 are left behind them
        stock(longer, 18, 1, 700, 1400);
        Carcasswright much = faces("br3", 840, 600);
        much.cut(0);
        stock(much, 18, 1, 300, 596);
    }

    /** Of a width of 560 there are a bottom of 1164 and sides of 720; the top of 1164 is 100 wide. */
    private static Carcasswright wide(int... lengthsAndWidths) {
        Carcasswright shop = Shop.one("bw1200", 0);
        shop.addBoards(0, 8, 1196, 716, 1);
        for (int i = 0; i < lengthsAndWidths.length; i += 2) {
            shop.addBoards(0, 18, lengthsAndWidths[i], lengthsAndWidths[i + 1], 1);
        }
        return shop;
    }

    static void promise36_fallingLengths() {
        Check.same("bottom, sides, top, back", 4, wide(1164, 560, 720, 1124, 1164, 300).cut(0));
        // as the bottom goes ahead of the sides it opens the first board, whose last place takes the top
        Check.same("sides on the second board", 3, wide(1164, 664, 720, 1124).cut(0));
        Refusals.due(() -> wide(1164, 663, 720, 1124), Calls.UNSUPPORTED, "cut", 0);
        Refusals.due(() -> wide(1163, 664, 720, 1124), Calls.UNSUPPORTED, "cut", 0);
    }

    static void promise36_noPlaceOnAShorterBoard() {
        // there are 876 left below the sides, but the top is longer than that board
        Check.same("the top opens another one", 4, wide(1164, 560, 720, 2000, 1164, 300).cut(0));
        Refusals.due(() -> wide(1164, 560, 720, 2000), Calls.UNSUPPORTED, "cut", 0);
        Refusals.due(() -> wide(1164, 560, 1163, 2000), Calls.UNSUPPORTED, "cut", 0);
        Check.same("it has place on one that is as long", 3, wide(1164, 560, 1164, 2000).cut(0));
    }

    static void promise36_intoTheFirstBoardWithPlace() {
        // two fronts have place on the first board, the third one on the next
        Carcasswright shop = faces("br3", 400, 600, 1000, 600);
        Check.same("opened", 4, shop.cut(0));
        stock(shop, 18, 1, 820, 596);
        Carcasswright one = faces("br3", 1000, 600, 400, 600);
        Check.same("one is enough", 3, one.cut(0));
        stock(one, 18, 1, 400, 600, 460, 596);
        // the door opens the second one, in which it has place, and the front goes there as well
        Carcasswright door = faces("bd1r1", 500, 700, 800, 700);
        Check.same("the first one has no place for the door", 3, door.cut(0));
        stock(door, 18, 1, 500, 700);
    }

    static void promise36_longerSizeAlongTheBoard() {
        // a back of 596 by 1196 lies with 1196 along
        Supplier<Carcasswright> along = () -> backOf("uw1200", 1196, 596);
        Check.same("along", 2, along.get().cut(0));
        Refusals.due(() -> backOf("uw1200", 1195, 2100), Calls.UNSUPPORTED, "cut", 0);
        Refusals.due(() -> backOf("uw1200", 2800, 595), Calls.UNSUPPORTED, "cut", 0);
        Refusals.due(() -> backOf("uw1200", 596, 1196), Calls.UNSUPPORTED, "cut", 0);
        // one of 596 by 596, 597 and 595
        Check.same("as long as wide", 2, backOf("uw600", 596, 596).cut(0));
        Check.same("wider by one", 2, backOf("uw601", 597, 596).cut(0));
        Refusals.due(() -> backOf("uw601", 596, 597), Calls.UNSUPPORTED, "cut", 0);
        Check.same("longer by one", 2, backOf("uw599", 596, 595).cut(0));
        Refusals.due(() -> backOf("uw599", 595, 596), Calls.UNSUPPORTED, "cut", 0);
    }

    private static Carcasswright backOf(String text, int length, int width) {
        Carcasswright shop = Shop.one(text, 0);
        shop.addBoards(0, 18, 2800, 2070, 1);
        shop.addBoards(0, 8, length, width, 1);
        return shop;
    }

    static void promise36_grainAlongTheBoard() {
        // a door of 476 by 1197, and a front of 176 by 1196, lie with their length, though it is the shorter size
        justFit("tw1200d1r9", 476, 1197, 1616, 1196);
        Refusals.due(() -> faces("tw1200d1r9", 1197, 476, 1616, 1196), Calls.UNSUPPORTED, "cut", 0);
        Refusals.due(() -> faces("bw1200r1", 1196, 300), Calls.UNSUPPORTED, "cut", 0);
        Check.same("a front of 176 by 1196", 3, faces("bw1200r1", 300, 1196).cut(0));
        // sides of 720 by 560 do not turn
        Refusals.due(() -> sides(560, 2100), Calls.UNSUPPORTED, "cut", 0);
        Refusals.due(() -> sides(719, 2100), Calls.UNSUPPORTED, "cut", 0);
        Check.same("along", 2, sides(720, 1242).cut(0));
        Refusals.due(() -> sides(720, 1241), Calls.UNSUPPORTED, "cut", 0);
    }

    /** Sides of 720 by 560, each in a strip, and bottom and top, 560 and 114 long, in one of 114 below them. */
    private static Carcasswright sides(int length, int width) {
        Carcasswright shop = Shop.one("bw150", 0);
        shop.addBoards(0, 18, length, width, 1);
        shop.addBoards(0, 8, 716, 300, 1);
        return shop;
    }

    static void promise36_twoDoorsAsOneOrOneByItself() {
        Refusals.due(() -> faces("bd2", 2800, 597), Calls.UNSUPPORTED, "cut", 0);
        Refusals.due(() -> faces("bd2", 716, 300, 716, 300), Calls.UNSUPPORTED, "cut", 0);
        Carcasswright shop = faces("bd2", 716, 598);
        shop.cut(0);
        shop.lose(0, 5);
        shop.addBoards(1, 18, 716, 300, 1);
        Check.same("one of them by itself", 1, shop.cut(0));
        stock(shop, 18, 1);
        Check.same("dust of both", 716 * 4 + 716 * 3, shop.area('d') - dustWithoutFaces());
        shop.lose(0, 6);
        shop.lose(0, 6);
        shop.addBoards(1, 18, 716, 300, 2);
        Check.unsupported("both are one again", () -> shop.cut(0));
        shop.addBoards(1, 18, 716, 598, 1);
        Check.same("and fit", 1, shop.cut(0));
        stock(shop, 18, 1, 716, 300, 716, 300);
    }

    /** What is dust of such a module without doors. */
    private static long dustWithoutFaces() {
        Carcasswright shop = faces("b");
        shop.cut(0);
        return shop.area('d');
    }

    static void promise36_doorsOfTheColourOfTheBody() {
        Carcasswright shop = Shop.one("bd2", 0);
        // 598, 560 and 560, and 4 between: two doors, a side, a side with bottom and top behind it
        shop.addBoards(0, 18, 2800, 2070, 1);
        shop.addBoards(0, 8, 716, 596, 1);
        Check.same("one board for all but the back", 2, shop.cut(0));
        // behind the doors of 716 sides and bottom have place, up to 2732; the top is in a strip of 100 of its own
        stock(shop, 18, 0, 2800, 2070 - 598 - 4 - 100 - 4);
    }

    static void promise36_thicknessAndColourOfBoards() {
        Refusals.due(() -> kinds(0, 8, 0, 8, 1, 18), Calls.UNSUPPORTED, "cut", 0);
        Refusals.due(() -> kinds(0, 18, 0, 18, 1, 18), Calls.UNSUPPORTED, "cut", 0);
        Refusals.due(() -> kinds(1, 18, 0, 8, 1, 18), Calls.UNSUPPORTED, "cut", 0);
        Refusals.due(() -> kinds(0, 18, 1, 8, 1, 18), Calls.UNSUPPORTED, "cut", 0);
        Refusals.due(() -> kinds(0, 18, 0, 8, 0, 18), Calls.UNSUPPORTED, "cut", 0);
        Refusals.due(() -> kinds(0, 18, 0, 8, 2, 18), Calls.UNSUPPORTED, "cut", 0);
        Refusals.due(() -> kinds(0, 18, 0, 8, 1, 8), Calls.UNSUPPORTED, "cut", 0);
        Check.same("all as they have to be", 3, kinds(0, 18, 0, 8, 1, 18).cut(0));
    }

    private static Carcasswright kinds(int... coloursAndThicknesses) {
        Carcasswright shop = Shop.one("bd1", 1);
        for (int i = 0; i < coloursAndThicknesses.length; i += 2) {
            shop.addBoards(coloursAndThicknesses[i], coloursAndThicknesses[i + 1], 2800, 2070, 1);
        }
        return shop;
    }

    /** Offcuts come board by board as these were opened: body, back, faces, or by what is cut first. */
    static void promise36_inTheOrderOfTheFirstPart() {
        Carcasswright shop = kinds(1, 18, 0, 8, 0, 18);
        Check.same("opened", 3, shop.cut(0));
        // behind the body's only strip there are 216 left: dust
        int[] thick = {18, 8, 8, 18, 18};
        int[] colours = {0, 0, 0, 1, 1};
        Check.same("offcuts", 5, shop.boards());
        for (int i = 0; i < 5; i++) {
            Check.same("thickness of " + i, thick[i], shop.board(i, 't'));
            Check.same("colour of " + i, colours[i], shop.board(i, 'c'));
        }
        Check.same("strips first", 2800 - 716 - 4, shop.board(3, 'l'));
        Check.same("then what is below", 2800, shop.board(4, 'l'));
        shop.lose(0, 5);
        shop.lose(0, 4);
        Check.same("the back ahead of the door", 2, shop.cut(0));
        Check.same("the last one is of the door", 1, shop.board(shop.boards() - 1, 'c'));
    }

    /** A board for each of 24 pieces, of which 38 offcuts are left: no next piece has place in one of them. */
    private static Carcasswright muchIsLeft() {
        Carcasswright shop = Shop.one("td2s9r9", 1);
        shop.addBoards(0, 18, 2404, 864, 2);
        shop.addBoards(0, 18, 868, 864, 2);
        shop.addBoards(0, 18, 866, 844, 9);
        shop.addBoards(0, 8, 2400, 900, 1);
        shop.addBoards(1, 18, 476, 902, 1);
        shop.addBoards(1, 18, 300, 900, 9);
        return shop;
    }

    static void promise36_twoOffcutsOfABoard() {
        Carcasswright shop = muchIsLeft();
        Check.same("boards", 24, shop.boards());
        Check.same("all are opened", 24, shop.cut(0));
        Check.same("offcuts", 38, shop.offcuts());
        Check.same("and nothing else", 38, shop.boards());
        stock(shop, 8, 0, 300, 596, 2400, 300);
        stock(shop, 18, 1, 476, 300, 300, 300, 300, 300, 300, 300, 300, 300, 300, 300, 300, 300, 300, 300,
            300, 300, 300, 300);
        Carcasswright full = muchIsLeft();
        full.addBoards(2, 8, 2800, 2100, 20);
        full.addBoards(2, 8, 2800, 2100, 16);
        Check.same("60 boards", 60, full.boards());
        Check.same("24 are opened", 24, full.cut(0));
        Check.same("as many offcuts have place", 24, full.offcuts());
        Check.same("60 again", 60, full.boards());
        stock(full, 8, 0);
        stock(full, 18, 1);
        Check.same("the first offcut", 300, full.board(36, 'l'));
        Check.same("a strip of the first side", 560, full.board(36, 'w'));
        Check.same("the last one is of a shelf, below its strip", 866, full.board(59, 'l'));
        Check.same("as wide as is left", 300, full.board(59, 'w'));
    }

    static void promise36_allOrNothing() {
        // boards for the body only, for body and back only; of what would be opened nothing is changed
        Refusals.due(() -> kinds(0, 18), Calls.UNSUPPORTED, "cut", 0);
        Refusals.due(() -> kinds(0, 18, 0, 8), Calls.UNSUPPORTED, "cut", 0);
        Carcasswright shop = kinds(0, 18, 0, 8);
        Check.unsupported("no board for the door", () -> shop.cut(0));
        shop.addBoards(1, 18, 2800, 2070, 1);
        Check.same("as if it was not tried", 3, shop.cut(0));
        Check.noElement("all is cut", () -> shop.cut(0));
    }

    static void promise16_keepsEachOnce() {
        Carcasswright shop = Shop.room(4000);
        for (String text : new String[] {"bs2", "bs1", "bs3", "tw600s1r1", "br1", "bw601s2"}) {
            Shop.add(shop, text);
        }
        shop.place(0, 0, 0, 1);
        shop.addBoards(0, 18, 2800, 2070, 9);
        shop.addBoards(0, 8, 2800, 2070, 2);
        shop.addBoards(1, 18, 2800, 2070, 1);
        shop.cut(0);
        shop.lose(0, 5);
        Check.same("one of two shelves is kept", 0, shop.change(0, 1));
        Check.same("and is enough", 0, shop.uncut(0));
        Check.same("to three", 0, shop.change(0, 2));
        Check.same("two are to be cut", 2, shop.uncut(0));
        Check.same("opened", 1, shop.cut(0));
        Check.same("of three one is kept", 2, shop.change(0, 1));
        Check.same("nothing to be cut", 0, shop.uncut(0));
        Check.same("two as scrap", 3 * 562L * 540, shop.area('x'));
        // of a tall one bottom and shelf are alike: sides, top and back are scrap
        Check.same("to a tall one", 4, shop.change(0, 3));
        Check.same("sides, top, back and front", 5, shop.uncut(0));
        shop.cut(0);
        Check.same("the front of a base module is alike", 5, shop.change(0, 4));
        Check.same("sides, top and back", 4, shop.uncut(0));
        // wider by one: nothing of what is cut but no side
        shop.cut(0);
        Check.same("all but the sides", 4, shop.change(0, 5));
        Check.same("sides are kept", 5, shop.uncut(0));
        stock(shop, 18, 2);
    }

    static void promise37_alikeIsOfTheSameKind() {
        Carcasswright shop = Shop.one("u", 0);
        shop.addBoards(0, 18, 2800, 2070, 1);
        shop.addBoards(0, 8, 596, 596, 1);
        shop.cut(0);
        Check.same("the bottom", 4, shop.lose(0, 2));
        Check.unsupported("the top is as large, but of another kind", () -> shop.lose(0, 2));
        Check.same("the top", 3, shop.lose(0, 3));
        Check.same("the back", 2, shop.lose(0, 4));
        Check.same("the second side", 1, shop.lose(0, 1));
        Check.same("one alike", 0, shop.lose(0, 1));
        for (int part = 0; part < 5; part++) {
            int lost = part;
            Check.unsupported("nothing is left", () -> shop.lose(0, lost));
        }
        Check.same("all to be cut", 5, shop.uncut(0));
        Check.same("scrap", 2 * 600 * 320 + 2 * 564 * 320 + 596 * 596, shop.area('x'));
        Check.same("no parts", 0, shop.area('p'));
    }

    static void promise37_partsOfAnotherModuleStay() {
        Carcasswright shop = Shop.one("b", 0);
        shop.place(0, 0, 600, 0);
        shop.addBoards(0, 18, 2800, 2070, 2);
        shop.addBoards(0, 8, 2800, 2070, 1);
        shop.cut(1);
        Check.unsupported("only the other one is cut", () -> shop.lose(0, 0));
        Check.same("of the other one", 4, shop.lose(1, 0));
        Check.same("all of this one", 5, shop.uncut(0));
        Check.same("one of the other one", 1, shop.uncut(1));
    }

    static void promise33_offcutsOnly() {
        Carcasswright shop = base(716, 596);
        Check.same("boards are none", 0, shop.offcuts());
        shop.cut(0);
        Check.same("nothing is left", 0, shop.offcuts());
        Check.same("of any kind", 0, shop.boards());
        shop.addBoards(0, 18, 300, 300, 20);
        Check.same("new boards are none", 0, shop.offcuts());
        Check.same("all of the stock", 20, shop.boards());
    }

    private SawEdgesTest() {
    }
}
