/** The edges of what the document says of edges, money, packs and steps, sentence by sentence. */
final class MoneyEdgesTest {
    private static void price(String text, int colour, int due) {
        Check.same("price of " + text + ", colour " + colour, due, Shop.one(text, colour).price(0));
    }

    /** Sides 8 each; a bottom of 560 by 292, or 291, 3; a back of 324, or 323, 4; fronts 57024, or 56848. */
    static void promise40_edgesOfAFront() {
        // the front's edges are 1000, or 998
        price("bw328r1", 0, 8 + 8 + 3 + 4 + 1 + 1 + 11);
        price("bw327r1", 0, 8 + 8 + 3 + 4 + 1 + 0 + 11);
        // 2000, or 1996, if they are doubled
        price("bw328r1", 1, 8 + 8 + 3 + 4 + 2 + 2 + 11);
        price("bw327r1", 1, 8 + 8 + 3 + 4 + 2 + 1 + 11);
        price("bw328r1", 2, 8 + 8 + 3 + 4 + 5 + 2 + 11);
        price("bw327r1", 2, 8 + 8 + 3 + 4 + 5 + 1 + 11);
    }

    static void promise40_edgesOfABottom() {
        // sides 23 and 2 each, the back 43; bottom and top of 1000, or 999, by 560: 11, and 1 or 0
        price("tw1036", 0, 25 + 25 + 12 + 12 + 43);
        price("tw1035", 0, 25 + 25 + 11 + 11 + 43);
        // the body has the colour 0, whatever the module's is
        price("tw1036", 2, 25 + 25 + 12 + 12 + 43);
    }

    static void promise40_cutTwice() {
        Carcasswright shop = Shop.one("b", 0);
        shop.setRate(0, 80);
        // 403, 403, 315, 56 and 426 thousands: of 56.4 and 426.736 there would be one more each
        Check.same("cut part by part", 322 + 322 + 252 + 44 + 340, shop.price(0));
        shop.setRate(0, 1);
        Check.same("rate 1", 4 + 4 + 3 + 0 + 4, shop.price(0));
        shop.setRate(0, 100);
        Check.same("greatest rate", 403 + 403 + 315 + 56 + 426, shop.price(0));
        shop.setRate(0, 0);
        Check.same("for nothing", 0, shop.price(0));
    }

    static void promise40_hingesAndDrawers() {
        String[] texts = {"b", "bd1", "bd2", "br1", "br3", "bd2r2", "td1", "td2", "td2r3", "td2r9"};
        int[] due = {0, 6, 12, 11, 33, 12 + 22, 12, 24, 18 + 33, 12 + 99};
        for (int i = 0; i < texts.length; i++) {
            Carcasswright shop = Shop.one(texts[i] + "w150", 0);
            shop.setRate(0, 0);
            int edges = 0;
            for (int part = 0; part < shop.parts(0); part++) {
                int length = shop.size(0, part, 'l');
                boolean isFace = shop.size(0, part, 'e') == 15;
                edges += shop.size(0, part, 'e') == 0 ? 0
                    : (isFace ? 2 * (length + shop.size(0, part, 'w')) : length) / 1000;
            }
            Check.same(texts[i], due[i] + edges, shop.price(0));
        }
        price("td2w150", 0, 23 + 2 + 23 + 2 + 1 + 1 + 6 + 2 * (3 + 4) + 24);
    }

    static void promise39_ratesOfEachColour() {
        Carcasswright shop = Shop.room(4000);
        Shop.add(shop, "br1");
        for (int colour = 0; colour < 3; colour++) {
            shop.place(0, 0, 600 * colour, colour);
            Check.same("at first", new int[] {2, 5, 9}[colour], shop.setRate(colour, 0));
        }
        int edges = 2 * (176 + 596) / 1000 + 11;
        Check.same("colour 0 for nothing", edges, shop.price(0));
        Check.same("colour 1 for nothing", 2 * 2 * (176 + 596) / 1000 + 11, shop.price(1));
        shop.setRate(1, 100);
        Check.same("colour 0 as before", edges, shop.price(0));
        Check.same("a front of 104896", 104 + 3 + 11, shop.price(1));
        Check.same("colour 2 as before", 3 + 11, shop.price(2));
        Check.same("before", 100, shop.setRate(1, 100));
    }

    static void promise38_edgesOfCutParts() {
        Carcasswright shop = Shop.room(4000);
        Shop.add(shop, "bw150d2s1r1");
        for (int colour = 0; colour < 3; colour++) {
            shop.place(0, 0, 150 * colour, colour);
            shop.addBoards(colour, 18, 2800, 2070, 2);
        }
        shop.addBoards(0, 8, 2800, 2070, 1);
        int body = 720 + 720 + 114 + 114 + 112;
        int faces = 2 * (2 * (536 + 72)) + 2 * (176 + 146);
        edged(shop, 0, 0, 0);
        shop.cut(2);
        edged(shop, body, 0, faces);
        shop.cut(1);
        edged(shop, 2 * body, faces, faces);
        shop.cut(0);
        edged(shop, 3 * body + faces, faces, faces);
        shop.lose(0, 8);
        edged(shop, 3 * body + faces - 2 * (176 + 146), faces, faces);
        shop.lose(1, 4);
        edged(shop, 3 * body + faces - 2 * (176 + 146), faces, faces);
        shop.lose(2, 0);
        edged(shop, 3 * body + faces - 2 * (176 + 146) - 720, faces, faces);
    }

    private static void edged(Carcasswright shop, int... due) {
        for (int colour = 0; colour < 3; colour++) {
            Check.same("edges of colour " + colour, due[colour], shop.edged(colour));
        }
    }

    private static void packs(String text, int most, int... due) {
        Carcasswright shop = Shop.one(text, 0);
        int packs = 0;
        for (int part = 0; part < due.length; part++) {
            Check.same(text + ", " + most + ", part " + part, due[part], shop.packOf(0, most, part));
            packs = Math.max(packs, due[part] + 1);
        }
        Check.same("packs of " + text + ", " + most, packs, shop.packs(0, most));
    }

    /** Sides 5080 each, bottom 3979, top 710, back 2389: 17238 in all. */
    static void promise41_asMuchAsAPackBears() {
        packs("b", 99999, 0, 0, 0, 0, 0);
        packs("b", 17238, 0, 0, 0, 0, 0);
        // the top is the last one, and one too much
        packs("b", 17237, 0, 0, 0, 1, 0);
        // two sides and the bottom are 14139: the back has no place there, the top of 710 just has
        packs("b", 14849, 0, 0, 0, 0, 1);
        packs("b", 14848, 0, 0, 0, 1, 1);
        packs("b", 10160, 0, 0, 1, 1, 1);
        // a side and the bottom 9059, and the other side and the back and the top 8179
        packs("b", 10159, 0, 1, 0, 0, 1);
        packs("b", 9059, 0, 1, 0, 1, 1);
        packs("b", 9058, 0, 1, 2, 0, 0);
        packs("b", 5080, 0, 1, 2, 2, 3);
        Refusals.due(() -> Shop.one("b", 0), Calls.UNSUPPORTED, "packs", 0, 5079);
        Refusals.due(() -> Shop.one("b", 0), Calls.UNSUPPORTED, "packOf", 0, 5079, 3);
        Refusals.due(() -> Shop.one("b", 0), Calls.UNSUPPORTED, "packs", 0, 1);
    }

    static void promise42_theLowestOfSeveral() {
        // the back of 2389 bears two fronts of 1321, the lowest ones; the top of 710 goes to the bottom of 3979
        packs("br3", 5080, 0, 1, 2, 2, 3, 3, 3, 4);
        // shelves of 3823 each ahead of the back
        packs("bs2", 5080, 0, 1, 2, 2, 5, 3, 4);
        Carcasswright heavy = Shop.one("tw1200d1", 1);
        Check.same("the door by itself", 0, heavy.packOf(0, 31612, 5));
        Check.unsupported("heavier", () -> heavy.packs(0, 31611));
    }

    static void promise43_eachPartOnce() {
        for (String text : new String[] {"b", "bs1", "bd2", "br3", "bd1s1r1", "ud2s3r2", "td2s9r9"}) {
            Carcasswright shop = Shop.one(text, 0);
            for (int step = 0; step < shop.parts(0); step++) {
                Calls.due(step, shop, "stepAt", 0, step);
            }
            Calls.due(Calls.NO_INDEX, shop, "stepAt", 0, shop.parts(0));
            Calls.due(Calls.NO_INDEX, shop, "stepAt", 0, -1);
        }
    }

    private MoneyEdgesTest() {
    }
}
