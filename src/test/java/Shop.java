/** Workshops that tests begin with. */
final class Shop {
    static void tell(Carcasswright shop, String text) {
        shop.wipe();
        for (char sign : text.toCharArray()) {
            shop.type(sign);
        }
    }

    static int add(Carcasswright shop, String text) {
        tell(shop, text);
        return shop.addType();
    }

    /** Walls to the e, n, w and s, as long as told. */
    static Carcasswright room(int... lengths) {
        Carcasswright shop = new Carcasswright();
        for (int i = 0; i < lengths.length; i++) {
            shop.addWall("enwsew".charAt(i), lengths[i]);
        }
        return shop;
    }

    /** One module of this text and colour on a wall of 4000. */
    static Carcasswright one(String text, int colour) {
        Carcasswright shop = room(4000);
        shop.place(add(shop, text), 0, 0, colour);
        return shop;
    }

    private Shop() {
    }
}
