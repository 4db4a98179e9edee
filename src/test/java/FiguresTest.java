final class FiguresTest {
    private static Carcasswright two() {
        Carcasswright shop = Shop.room(4000);
        Shop.add(shop, "b");
        Shop.add(shop, "bw801d1s1");
        shop.place(0, 0, 0, 0);
        shop.place(1, 0, 1000, 1);
        shop.addBoards(0, 18, 2800, 2070, 2);
        shop.addBoards(0, 8, 716, 596, 1);
        return shop;
    }

    static void promise48_modules() {
        Carcasswright shop = Shop.room(4000);
        Check.same("none", 0, shop.modules());
        Shop.add(shop, "b");
        shop.place(0, 0, 0, 0);
        shop.place(0, 0, 600, 0);
        Check.unsupported("refused", () -> shop.place(0, 0, 600, 0));
        Check.same("two", 2, shop.modules());
    }

    static void promise49_area() {
        Carcasswright shop = two();
        long boards = 2 * 2800 * 2070 + 716 * 596;
        Check.same("came", boards, shop.area('c'));
        Check.same("stock", boards, shop.area('s'));
        Check.same("parts", 0, shop.area('p'));
        Check.same("dust", 0, shop.area('d'));
        Check.same("scrap", 0, shop.area('x'));
        shop.cut(0);
        long parts = 2 * 720 * 560 + 564 * 560 + 564 * 100 + 716 * 596;
        long stock = 2800 * 2070 + 2800 * 1506;
        Check.same("came", boards, shop.area('c'));
        Check.same("stock", stock, shop.area('s'));
        Check.same("parts", parts, shop.area('p'));
        Check.same("dust", boards - stock - parts, shop.area('d'));
        shop.lose(0, 4);
        Check.same("parts", parts - 716 * 596, shop.area('p'));
        Check.same("scrap", 716 * 596, shop.area('x'));
        Check.badArgument("letter", () -> shop.area('z'));
        Check.badArgument("big letter", () -> shop.area('C'));
    }

    static void promise49_areasBeyondAnInt() {
        Carcasswright shop = Shop.one("tw1200s9r9", 1);
        Shop.add(shop, "tw1199s9r9");
        shop.addBoards(0, 18, 2100, 1124, 1);
        long came = 2100 * 1124;
        int type = 1;
        for (int calls = 24; calls < 500 && came <= Integer.MAX_VALUE; calls += 2) {
            if (isCut(shop)) {
                shop.change(0, type);
                type = 1 - type;
            } else {
                came += fill(shop);
                calls += 3;
            }
        }
        Check.same("more than an int came", true, came > Integer.MAX_VALUE);
        Check.same("came", came, shop.area('c'));
        long all = shop.area('s') + shop.area('p') + shop.area('d') + shop.area('x');
        Check.same("all that came", came, all);
        Check.same("sound", true, shop.isSound());
    }

    private static boolean isCut(Carcasswright shop) {
        try {
            shop.cut(0);
            return true;
        } catch (UnsupportedOperationException e) {
            return false;
        }
    }

    /** Boards for nine times all but the sides, which stay: bottom, top and shelves by three, backs, fronts. */
    private static long fill(Carcasswright shop) {
        shop.addBoards(0, 18, 1170, 1670, 17);
        shop.addBoards(0, 18, 1170, 1670, 16);
        shop.addBoards(0, 8, 2100, 1200, 9);
        shop.addBoards(1, 18, 1620, 1200, 9);
        return 33 * 1170L * 1670 + 9 * 2100L * 1200 + 9 * 1620L * 1200;
    }

    static void promise50_cutShare() {
        Carcasswright shop = two();
        Check.same("nothing", 0.0f, shop.cutShare());
        shop.cut(0);
        Check.same("5 of 12", 5.0f / 12.0f, shop.cutShare());
        shop.lose(0, 0);
        Check.same("4 of 12", 4.0f / 12.0f, shop.cutShare());
        Check.noElement("no modules", () -> Shop.room(600).cutShare());
    }

    static void promise51_meanWidth() {
        Carcasswright shop = two();
        Check.same("of two", 700.5, shop.meanWidth());
        shop.change(1, 0);
        Check.same("changed", 600.0, shop.meanWidth());
        shop.place(1, 0, 2000, 0);
        Check.same("of three", 2001.0 / 3.0, shop.meanWidth());
        Check.noElement("no modules", () -> Shop.room(600).meanWidth());
    }

    static void promise52_isSound() {
        Check.same("new", true, new Carcasswright().isSound());
        Carcasswright shop = two();
        Check.same("boards came", true, shop.isSound());
        shop.cut(0);
        Check.same("cut", true, shop.isSound());
        shop.lose(0, 0);
        Check.same("lost", true, shop.isSound());
        shop.change(0, 1);
        Check.same("changed", true, shop.isSound());
        shop.obstacle(0, 0, 4000, 0, 3000);
        shop.setOff(0, 60, 60);
        Check.same("obstacles are no modules", true, shop.isSound());
    }

    private FiguresTest() {
    }
}
