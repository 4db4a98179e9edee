final class TextTest {
    static void promise08_type() {
        Carcasswright shop = new Carcasswright();
        for (int i = 1; i <= 30; i++) {
            Check.same("sign", i, shop.type((char) (i * 2000)));
        }
        Check.badState("a 31st", () -> shop.type('b'));
        Check.same("30 stay", 30, shop.wipe());
        Check.same("from the beginning", 1, shop.type('b'));
    }

    static void promise09_wipe() {
        Carcasswright shop = new Carcasswright();
        Check.same("empty", 0, shop.wipe());
        Shop.tell(shop, "bw12");
        Check.same("four", 4, shop.wipe());
        Check.same("empty again", 0, shop.wipe());
    }

    private static void faulty(String text, int place, char letter) {
        Carcasswright shop = new Carcasswright();
        Shop.add(shop, "uw700d1s3r1");
        Shop.tell(shop, text);
        Check.same("fault of " + text, place, shop.fault());
        Check.same("kind of fault of " + text, letter, shop.faultKind());
        Check.badArgument("addType of " + text, shop::addType);
        Check.same("text stays", text.length(), shop.wipe());
    }

    private static void right(String text, int width, int doors, int shelves, int drawers, int high) {
        Carcasswright shop = new Carcasswright();
        Shop.add(shop, "uw700d1s3r1");
        Shop.tell(shop, text);
        Check.noElement("fault of " + text, shop::fault);
        Check.noElement("kind of fault of " + text, shop::faultKind);
        Check.same("number", 1, shop.addType());
        Check.same("text is empty", 0, shop.wipe());
        Check.same("width of " + text, width, shop.told(1, 'w'));
        Check.same("doors of " + text, doors, shop.told(1, 'd'));
        Check.same("shelves of " + text, shelves, shop.told(1, 's'));
        Check.same("drawers of " + text, drawers, shop.told(1, 'r'));
        Check.same("height of " + text, high, shop.told(1, 'h'));
    }

    static void promise10_fault() {
        faulty("", 0, 'k');
        faulty("x", 0, 'k');
        faulty("B", 0, 'k');
        faulty("wb", 0, 'k');
        faulty("@", 1, 't');
        faulty("@1", 1, 't');
        faulty("@a", 1, 't');
        faulty("@b", 1, 't');
        faulty("@00", 2, 'i');
        faulty("b1", 1, 'i');
        faulty("bb", 1, 'i');
        faulty("b@", 1, 'i');
        faulty("bd12", 3, 'i');
        faulty("bs1r1x", 5, 'i');
        faulty("bw12345", 6, 'i');
        faulty("bw", 2, 'n');
        faulty("bww", 2, 'n');
        faulty("bd/", 2, 'n');
        faulty("bd:", 2, 'n');
        faulty("bd1s", 4, 'n');
    }

    static void promise11_faultKindAtTheEnd() {
        faulty("bw149", 5, 'f');
        faulty("bw1201", 6, 'f');
        faulty("bw0", 3, 'f');
        faulty("bw9999", 6, 'f');
        faulty("bd3", 3, 'f');
        faulty("bd9", 3, 'f');
        faulty("bd1r3", 5, 'f');
        faulty("br4", 3, 'f');
        faulty("ud1r3", 5, 'f');
        faulty("ur4", 3, 'f');
        faulty("@0r3", 4, 'f');
        faulty("@0w9", 4, 'f');
        // a fault of the signs is told rather than one of the end
        faulty("bd3x", 3, 'i');
    }

    static void promise10_noFault() {
        right("b", 600, 0, 0, 0, 720);
        right("u", 600, 0, 0, 0, 600);
        right("t", 600, 0, 0, 0, 2100);
        right("bw150", 150, 0, 0, 0, 720);
        right("bw1200", 1200, 0, 0, 0, 720);
        right("bw0200", 200, 0, 0, 0, 720);
        right("bd2r2", 600, 2, 0, 2, 720);
        right("br3", 600, 0, 0, 3, 720);
        right("ud1r2", 600, 1, 0, 2, 600);
        right("ur3", 600, 0, 0, 3, 600);
        right("td2r9s9", 600, 2, 9, 9, 2100);
        right("@0", 700, 1, 3, 1, 600);
        right("@0w800d0", 800, 0, 3, 1, 600);
        right("@0r0d2s1", 700, 2, 1, 0, 600);
        right("bd2w5d1w300", 300, 1, 0, 0, 720);
        right("bw5w600d9d0r9r0s3s0", 600, 0, 0, 0, 720);
        right("tw1000s1s2s3s4s5s6s7s8s9d1d2d0", 1000, 0, 9, 0, 2100);
    }

    static void promise12_addType() {
        Carcasswright shop = new Carcasswright();
        for (int i = 0; i < 8; i++) {
            Check.same("type", i, Shop.add(shop, i == 0 ? "tw300" : "@" + (i - 1) + "s" + i));
        }
        Check.same("taken over of all ahead", 300, shop.told(7, 'w'));
        Check.same("its own", 7, shop.told(7, 's'));
        Check.same("that ahead", 6, shop.told(6, 's'));
        Shop.tell(shop, "b");
        Check.badState("a ninth", shop::addType);
        Check.same("text stays", 1, shop.wipe());
        Check.badArgument("fault first", shop::addType);
        Shop.tell(shop, "@8");
        Check.badArgument("no type 8", shop::addType);
        Check.same("fault", 1, shop.fault());
    }

    static void promise12_typesThatComeLater() {
        Carcasswright shop = new Carcasswright();
        Shop.tell(shop, "@0");
        Check.same("none yet", 't', shop.faultKind());
        shop.wipe();
        Shop.add(shop, "b");
        Shop.tell(shop, "@0");
        Check.noElement("now there is one", shop::fault);
    }

    static void promise13_told() {
        Carcasswright shop = new Carcasswright();
        Check.noIndex("none", () -> shop.told(0, 'w'));
        Shop.add(shop, "bd1");
        Check.noIndex("below", () -> shop.told(-1, 'w'));
        Check.noIndex("index first", () -> shop.told(1, 'x'));
        Check.badArgument("letter", () -> shop.told(0, 'x'));
        Check.badArgument("big letter", () -> shop.told(0, 'W'));
        Check.badArgument("sign 0", () -> shop.told(0, (char) 0));
    }

    private TextTest() {
    }
}
