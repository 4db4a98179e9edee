/** The edges of what the document says of texts and types, sentence by sentence. */
final class TextEdgesTest {
    private static final int SIGNS_OF_A_SHOP = 40;
    private static final Object[] NONE = {Calls.NO_ELEMENT, Calls.NO_ELEMENT};

    /** Four types, and the text typed. */
    private static Carcasswright text(String text) {
        Carcasswright shop = new Carcasswright();
        for (String type : new String[] {"b", "uw700d1s3r1", "tw1200d2s9r9", "bw150r3"}) {
            Shop.add(shop, type);
        }
        Shop.tell(shop, text);
        return shop;
    }

    private static void fault(String text, int place, char kind) {
        Carcasswright shop = text(text);
        Calls.due(place, shop, "fault");
        Calls.due(kind, shop, "faultKind");
        Refusals.due(() -> text(text), Calls.BAD_ARGUMENT, "addType");
    }

    private static void right(String text, int width, int doors, int shelves, int drawers, int high) {
        Carcasswright shop = text(text);
        Calls.due(Calls.NO_ELEMENT, shop, "fault");
        Calls.due(Calls.NO_ELEMENT, shop, "faultKind");
        Check.same(text, 4, shop.addType());
        int[] due = {width, doors, shelves, drawers, high};
        for (int i = 0; i < due.length; i++) {
            Calls.due(due[i], shop, "told", 4, "wdsrh".charAt(i));
        }
        Check.same("the text is empty", 0, shop.wipe());
    }

    private static Object[] at(int place, char kind) {
        return new Object[] {place, kind};
    }

    /** All signs behind a text: their faults by the signs told, one row of signs behind the other, or of all others. */
    private static void nextSign(String text, Object[] ofOthers, Object... signsAndFaults) {
        Carcasswright shop = text(text);
        for (int sign = 0; sign <= Character.MAX_VALUE; sign++) {
            if (sign % SIGNS_OF_A_SHOP == 0) {
                shop = text(text);
            }
            Shop.tell(shop, text);
            shop.type((char) sign);
            Object[] due = ofOthers;
            for (int i = 0; i < signsAndFaults.length; i += 2) {
                due = ((String) signsAndFaults[i]).indexOf(sign) >= 0 ? (Object[]) signsAndFaults[i + 1] : due;
            }
            Object place = Calls.answer(shop, "fault");
            Object kind = Calls.answer(shop, "faultKind");
            if (!due[0].equals(place) || !due[1].equals(kind)) {
                Check.tell(text + " and sign " + sign + ": " + place + " " + kind);
            }
        }
    }

    static void promise10_anyFirstSign() {
        nextSign("", at(0, 'k'), "but", NONE, "@", at(1, 't'));
    }

    static void promise10_anyNumberOfAType() {
        nextSign("@", at(1, 't'), "0123", NONE);
    }

    static void promise10_anyItem() {
        for (String text : new String[] {"b", "u", "t", "@0", "bd1", "bs1", "br1", "bw0600"}) {
            int place = text.length();
            nextSign(text, at(place, 'i'), "wdsr", at(place + 1, 'n'));
        }
        nextSign("bw60", at(4, 'i'), "wdsr", at(5, 'n'), "0123456789", NONE);
        nextSign("bw12", at(4, 'i'), "wdsr", at(5, 'n'), "0123456789", at(5, 'f'));
    }

    static void promise10_anyFirstDigit() {
        nextSign("bw", at(2, 'n'), "0123456789", at(3, 'f'));
        nextSign("bs", at(2, 'n'), "0123456789", NONE);
        nextSign("bd", at(2, 'n'), "012", NONE, "3456789", at(3, 'f'));
        nextSign("br", at(2, 'n'), "0123", NONE, "456789", at(3, 'f'));
        nextSign("tr", at(2, 'n'), "0123456789", NONE);
    }

    static void promise10_furtherDigits() {
        fault("bd11", 3, 'i');
        fault("bs11", 3, 'i');
        fault("br11", 3, 'i');
        fault("bw06000", 6, 'i');
        fault("bw00600", 6, 'i');
        fault("@01", 2, 'i');
        right("bw0600", 600, 0, 0, 0, 720);
        right("bw600", 600, 0, 0, 0, 720);
        fault("bw60", 4, 'f');
        fault("bw6", 3, 'f');
        fault("bw6000", 6, 'f');
    }

    /** What ends too early lacks the sign that would have to come: the fault is at its end. */
    static void promise10_tooShort() {
        fault("@", 1, 't');
        fault("bw", 2, 'n');
        fault("bd", 2, 'n');
        fault("bs", 2, 'n');
        fault("br", 2, 'n');
        fault("@0w", 3, 'n');
        fault("bw600d", 6, 'n');
        // also if what is told already would be a fault at the end
        fault("bd9s", 4, 'n');
        fault("bw9d", 4, 'n');
    }

    static void promise10_theFirstFaultCounts() {
        fault("xx", 0, 'k');
        fault("@9x", 1, 't');
        fault("bxd", 1, 'i');
        fault("bdxx", 2, 'n');
        fault("bd9x", 3, 'i');
        fault("bw9999x", 6, 'i');
        fault("Bd1", 0, 'k');
        fault("bD1", 1, 'i');
    }

    static void promise11_widthsAtTheEnd() {
        String[] begins = {"b", "u", "t", "@0", "@1", "@2", "@3"};
        for (String begin : begins) {
            int end = begin.length();
            fault(begin + "w149", end + 4, 'f');
            fault(begin + "w1201", end + 5, 'f');
            fault(begin + "w0000", end + 5, 'f');
            fault(begin + "w0", end + 2, 'f');
            fault(begin + "w9999", end + 5, 'f');
            Calls.due(Calls.NO_ELEMENT, text(begin + "w150"), "fault");
            Calls.due(Calls.NO_ELEMENT, text(begin + "w1200"), "fault");
        }
        right("bw150", 150, 0, 0, 0, 720);
        right("bw1200", 1200, 0, 0, 0, 720);
        right("@1w151", 151, 1, 3, 1, 600);
        right("@1w1199", 1199, 1, 3, 1, 600);
    }

    static void promise11_doorsAtTheEnd() {
        right("bd0", 600, 0, 0, 0, 720);
        right("bd1", 600, 1, 0, 0, 720);
        right("bd2", 600, 2, 0, 0, 720);
        for (int doors = 3; doors < 10; doors++) {
            fault("bd" + doors, 3, 'f');
            fault("ud" + doors, 3, 'f');
            fault("td" + doors, 3, 'f');
        }
    }

    /** By drawers doors are 716, 536, 356, 176 and -4 high, of upper ones 596, 416, 236, 56 and -124. */
    static void promise11_doorsLessThan200High() {
        right("bd1r2", 600, 1, 0, 2, 720);
        fault("bd1r3", 5, 'f');
        right("br3", 600, 0, 0, 3, 720);
        right("bd0r3", 600, 0, 0, 3, 720);
        fault("br4", 3, 'f');
        fault("bd1r4", 5, 'f');
        fault("br9", 3, 'f');
        right("ud2r2", 600, 2, 0, 2, 600);
        fault("ud2r3", 5, 'f');
        right("ur3", 600, 0, 0, 3, 600);
        fault("ur4", 3, 'f');
        right("td2r9", 600, 2, 0, 9, 2100);
        right("tr9", 600, 0, 0, 9, 2100);
        // of what is taken over as well
        fault("@3d1", 4, 'f');
        right("@3d1r2", 150, 1, 0, 2, 720);
        fault("@1r3", 4, 'f');
        right("@1r3d0", 700, 0, 3, 3, 600);
    }

    static void promise12_withoutItems() {
        right("b", 600, 0, 0, 0, 720);
        right("u", 600, 0, 0, 0, 600);
        right("t", 600, 0, 0, 0, 2100);
        right("@1", 700, 1, 3, 1, 600);
        right("@2", 1200, 2, 9, 9, 2100);
        right("@3", 150, 0, 0, 3, 720);
    }

    static void promise12_theLastItemCounts() {
        right("bd3d2", 600, 2, 0, 0, 720);
        fault("bd2d3", 5, 'f');
        right("bw9w600", 600, 0, 0, 0, 720);
        fault("bw600w9", 7, 'f');
        right("br9r0", 600, 0, 0, 0, 720);
        right("bs9s0", 600, 0, 0, 0, 720);
        right("bs0s9", 600, 0, 9, 0, 720);
        // a width that comes again begins anew
        right("bw1w200", 200, 0, 0, 0, 720);
        right("@1w300w400", 400, 1, 3, 1, 600);
    }

    static void promise12_typesStayAsTheyWere() {
        Carcasswright shop = text("@1w300d0s0r0");
        shop.addType();
        Check.same("width of the one taken over", 700, shop.told(1, 'w'));
        Check.same("its doors", 1, shop.told(1, 'd'));
        Check.same("its shelves", 3, shop.told(1, 's'));
        Check.same("its drawers", 1, shop.told(1, 'r'));
        Check.same("its height", 600, shop.told(1, 'h'));
    }

    static void promise10_askingChangesNothing() {
        Refusals.due(Shop::standard, Calls.NO_ELEMENT, "fault");
        Refusals.due(Shop::full, Calls.NO_ELEMENT, "fault");
    }

    static void promise11_askingChangesNothing() {
        Refusals.due(Shop::standard, Calls.NO_ELEMENT, "faultKind");
        Refusals.due(Shop::full, Calls.NO_ELEMENT, "faultKind");
    }

    /** What was told by a text that is wiped does not count for the next one. */
    static void promise10_behindAnotherText() {
        for (String before : new String[] {"bw60", "bw", "tw1200d2s9r9", "bd3", "@1w1", "xx"}) {
            for (String text : new String[] {"b5", "@05"}) {
                Carcasswright shop = text(before);
                Calls.answer(shop, "fault");
                Shop.tell(shop, text);
                Calls.due(text.length() - 1, shop, "fault");
                Calls.due('i', shop, "faultKind");
            }
            Carcasswright shop = text(before);
            Calls.answer(shop, "fault");
            Shop.tell(shop, "u");
            Check.same("a type", 4, shop.addType());
            Check.same("its width", 600, shop.told(4, 'w'));
            Check.same("no shelves", 0, shop.told(4, 's'));
            Check.same("its height", 600, shop.told(4, 'h'));
        }
    }

    static void promise09_wipeOfAFault() {
        Carcasswright shop = text("xx");
        Check.same("two signs", 2, shop.wipe());
        Check.same("the fault of the empty text", 0, shop.fault());
        shop.type('b');
        Check.noElement("none", shop::fault);
    }

    private TextEdgesTest() {
    }
}
