final class MoneyTest {
    static void promise38_edged() {
        Carcasswright shop = Shop.room(4000);
        Shop.add(shop, "bd2s1r1");
        shop.place(0, 0, 0, 1);
        shop.place(0, 0, 600, 0);
        Check.same("nothing is cut", 0, shop.edged(0));
        shop.addBoards(0, 18, 2800, 2070, 3);
        shop.addBoards(0, 8, 2800, 2070, 3);
        shop.addBoards(1, 18, 2800, 2070, 3);
        shop.cut(0);
        int body = 2 * 720 + 564 + 564 + 562;
        int faces = 2 * 2 * (536 + 297) + 2 * (176 + 596);
        Check.same("the body", body, shop.edged(0));
        Check.same("the faces", faces, shop.edged(1));
        Check.same("none", 0, shop.edged(2));
        shop.cut(1);
        Check.same("both, and faces of the colour 0", 2 * body + faces, shop.edged(0));
        shop.lose(0, 4);
        Check.same("a back has none", 2 * body + faces, shop.edged(0));
        shop.lose(0, 7);
        Check.same("a door less", faces - 2 * (536 + 297), shop.edged(1));
        Check.badArgument("colour", () -> shop.edged(3));
        Check.badArgument("colour below", () -> shop.edged(-1));
    }

    static void promise39_setRate() {
        Carcasswright shop = new Carcasswright();
        Check.same("at first", 2, shop.setRate(0, 100));
        Check.same("at first", 5, shop.setRate(1, 0));
        Check.same("at first", 9, shop.setRate(2, 7));
        Check.same("before", 100, shop.setRate(0, 1));
        Check.badArgument("colour", () -> shop.setRate(3, 1));
        Check.badArgument("colour below", () -> shop.setRate(-1, 1));
        Check.badArgument("rate", () -> shop.setRate(0, 101));
        Check.badArgument("rate below", () -> shop.setRate(0, -1));
        Check.same("nothing changed", 1, shop.setRate(0, 2));
    }

    static void promise40_price() {
        // sides 8, bottom 8, top 1, back 11; fronts 7 and 3 of their edges; drawers 11
        Carcasswright shop = Shop.one("bw800r3", 1);
        Check.same("three drawers", 99, shop.price(0));
        shop.setRate(1, 50);
        Check.same("another rate", 288, shop.price(0));
        shop.setRate(0, 0);
        Check.same("the body for nothing", 288 - 16 - 8 - 1 - 11, shop.price(0));
        // edges of the door: 4866, of the colour 2 doubled
        Carcasswright door = Shop.room(4000);
        Shop.add(door, "tw340d1");
        door.place(0, 0, 0, 0);
        door.place(0, 0, 1000, 2);
        int body = 2 * (2 * 1176 / 100 + 2) + 2 * (2 * 170 / 100) + 2 * 704 / 100;
        Check.same("colour 0", body + 2 * 706 / 100 + 4 + 3 * 4, door.price(0));
        Check.same("colour 2", body + 9 * 706 / 100 + 9 + 3 * 4, door.price(1));
        // sides 8, bottom 8, top 1, back 11; the front 2 * 144 / 100 and 1998 / 1000, or 5 and 3
        Check.same("edges of 1998", 16 + 8 + 1 + 11 + 2 + 1 + 11, Shop.one("bw827r1", 0).price(0));
        Check.same("edges of 3996", 16 + 8 + 1 + 11 + 7 + 3 + 11, Shop.one("bw827r1", 1).price(0));
        Check.noIndex("module", () -> shop.price(1));
        Check.noIndex("module below", () -> shop.price(-1));
    }

    static void promise41_packs() {
        Carcasswright shop = Shop.one("bw800r3", 1);
        // 5080, 5080, 5390, 962, 3191, 1765, 1765, 1765
        Check.same("all in one", 1, shop.packs(0, 24998));
        Check.same("1 too few", 2, shop.packs(0, 24997));
        Check.same("the most", 1, shop.packs(0, 99999));
        Check.same("three", 3, shop.packs(0, 12000));
        Check.same("the heaviest by itself", 5, shop.packs(0, 5390));
        Check.unsupported("too heavy", () -> shop.packs(0, 5389));
        Check.unsupported("least", () -> shop.packs(0, 1));
        Check.badArgument("0", () -> shop.packs(0, 0));
        Check.badArgument("too many", () -> shop.packs(0, 100000));
        Check.same("25 parts", 7, Shop.one("td2s9r9", 0).packs(0, 14817));
        Check.noIndex("module first", () -> shop.packs(1, 0));
        Check.noIndex("module below", () -> shop.packs(-1, 1));
    }

    static void promise42_packOf() {
        Carcasswright shop = Shop.one("bw800r3", 1);
        // 5390 and 5080 and 962; 5080 and 3191 and 1765 and 1765; 1765
        int[] due = {0, 1, 0, 0, 1, 1, 1, 2};
        for (int part = 0; part < due.length; part++) {
            Check.same("part " + part, due[part], shop.packOf(0, 12000, part));
        }
        int[] narrow = {1, 2, 0, 4, 3, 3, 4, 4};
        for (int part = 0; part < narrow.length; part++) {
            Check.same("part " + part, narrow[part], shop.packOf(0, 5390, part));
        }
        Carcasswright full = Shop.one("td2s9r9", 0);
        int[] packs = {0, 1, 2, 3, 2, 2, 3, 3, 4, 4, 4, 5, 5, 5, 3, 4, 3, 4, 5, 5, 6, 6, 6, 6, 6};
        for (int part = 0; part < 25; part++) {
            Check.same("part " + part + " of 25", packs[part], full.packOf(0, 14817, part));
        }
        Check.noIndex("part first", () -> shop.packOf(0, 0, 8));
        Check.noIndex("part below", () -> shop.packOf(0, 9999, -1));
        Check.noIndex("module", () -> shop.packOf(1, 9999, 0));
        Check.badArgument("most first", () -> shop.packOf(0, 0, 0));
        Check.badArgument("most", () -> shop.packOf(0, 100000, 0));
        Check.unsupported("a part is heavier, though not this one", () -> shop.packOf(0, 5389, 3));
    }

    static void promise43_stepAt() {
        Carcasswright shop = Shop.one("bd2s2r2", 1);
        // shelves come ahead of doors, doors ahead of fronts
        for (int i = 0; i < 11; i++) {
            Check.same("step " + i, i, shop.stepAt(0, i));
        }
        Check.noIndex("step", () -> shop.stepAt(0, 11));
        Check.noIndex("step below", () -> shop.stepAt(0, -1));
        Check.noIndex("module", () -> shop.stepAt(1, 0));
    }

    private MoneyTest() {
    }
}
