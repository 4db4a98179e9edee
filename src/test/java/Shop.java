/** Workshops that tests begin with. */
final class Shop {
    static void tell(Carcasswright shop, String text) {
        shop.wipe();
        for (char sign : text.toCharArray()) {
            shop.type(sign);
        }
    }

    static int add(Carcasswright shop, String text) {
        tell(shop, text);
        return shop.addType();
    }

    /** Walls to the e, n, w and s, as long as told. */
    static Carcasswright room(int... lengths) {
        Carcasswright shop = new Carcasswright();
        for (int i = 0; i < lengths.length; i++) {
            shop.addWall("enwsew".charAt(i), lengths[i]);
        }
        return shop;
    }

    /** Walls to the ways told, all of one length. */
    static Carcasswright ways(String ways, int length) {
        Carcasswright shop = new Carcasswright();
        for (char way : ways.toCharArray()) {
            shop.addWall(way, length);
        }
        return shop;
    }

    /** One module of this text and colour on a wall of 4000. */
    static Carcasswright one(String text, int colour) {
        Carcasswright shop = room(4000);
        shop.place(add(shop, text), 0, 0, colour);
        return shop;
    }

    /**
     * Something of all: 4 walls, 2 obstacles, 4 types, a right text of 7 signs, 3 modules, the first of which is cut
     * but for a door, boards and offcuts, 3 jobs, and the causes 'o' 0 and 'h' 0.
     */
    static Carcasswright standard() {
        Carcasswright shop = room(3000, 2500, 3011, 2494);
        shop.close();
        shop.setOff(1, 20, 5);
        shop.setOff(3, 0, 60);
        shop.obstacle(0, 2000, 2100, 0, 900);
        shop.obstacle(1, 700, 900, 1300, 1500);
        for (String text : new String[] {"bd2s1", "uw450d1", "tw500s2", "bw800r3"}) {
            add(shop, text);
        }
        shop.place(0, 0, 1000, 1);
        shop.place(1, 0, 1000, 2);
        shop.place(2, 2, 1200, 0);
        shop.addBoards(0, 18, 2800, 2070, 3);
        shop.addBoards(0, 8, 2800, 2070, 2);
        shop.addBoards(1, 18, 1000, 700, 2);
        shop.addBoards(2, 18, 2000, 1000, 1);
        shop.cut(0);
        shop.lose(0, 6);
        shop.setRate(1, 50);
        shop.setSetup(3);
        shop.job(1, 5, 7);
        shop.job(0, 3, 4);
        shop.job(1, 2, 20);
        Calls.answer(shop, "place", 0, 0, 1500, 0);
        tell(shop, "bw700s2");
        return shop;
    }

    /** All that there is place for: 6 walls, 8 obstacles, 30 signs, 8 types, 16 modules, 60 boards, 6 jobs. */
    static Carcasswright full() {
        Carcasswright shop = room(9999, 600, 9000, 700, 500, 501);
        for (int i = 0; i < 8; i++) {
            shop.obstacle(2, 100 * i, 100 * i + 50, 0, 100 + i);
        }
        for (String text : new String[] {"bw150", "@0s1", "@0d1", "uw150", "@3s1", "tw150", "@0r1", "bw151"}) {
            add(shop, text);
        }
        for (int i = 0; i < 16; i++) {
            shop.place(0, 0, 150 * i, i % 3);
        }
        shop.addBoards(0, 18, 2800, 2070, 20);
        shop.addBoards(0, 8, 2800, 2070, 20);
        shop.addBoards(1, 18, 500, 500, 20);
        for (int i = 0; i < 6; i++) {
            shop.job(i % 3, 6 - i, 3 * i);
        }
        tell(shop, "bw0600d1s1r1w0600d1s1r1w0600d1");
        return shop;
    }

    private Shop() {
    }
}
