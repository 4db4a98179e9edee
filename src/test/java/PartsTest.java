final class PartsTest {
    /** Kind, length, width, thickness, edges and weight of each part. */
    private static final Object[][] BASE = {
        {'s', 720, 560, 18, 1, 5080}, {'s', 720, 560, 18, 1, 5080}, {'b', 564, 560, 18, 1, 3979},
        {'t', 564, 100, 18, 1, 710}, {'k', 716, 596, 8, 0, 2389}, {'h', 562, 540, 18, 1, 3823},
        {'h', 562, 540, 18, 1, 3823}, {'d', 536, 297, 18, 15, 2005}, {'d', 536, 297, 18, 15, 2005},
        {'f', 176, 596, 18, 15, 1321},
    };
    private static final Object[][] UPPER = {
        {'s', 600, 320, 18, 1, 2419}, {'s', 600, 320, 18, 1, 2419}, {'b', 465, 320, 18, 1, 1874},
        {'t', 465, 320, 18, 1, 1874}, {'k', 596, 497, 8, 0, 1658}, {'h', 463, 300, 18, 1, 1750},
        {'d', 596, 247, 18, 15, 1854}, {'d', 596, 247, 18, 15, 1854},
    };
    private static final Object[][] TALL = {
        {'s', 2100, 560, 18, 1, 14817}, {'s', 2100, 560, 18, 1, 14817}, {'b', 1164, 560, 18, 1, 8213},
        {'t', 1164, 560, 18, 1, 8213}, {'k', 2096, 1196, 8, 0, 14038}, {'d', 1736, 1197, 18, 15, 26182},
        {'f', 176, 1196, 18, 15, 2652}, {'f', 176, 1196, 18, 15, 2652},
    };

    private static Carcasswright of(Object[][] parts) {
        return Shop.one(parts == BASE ? "bd2s2r1" : parts == UPPER ? "uw501d2s1" : "tw1200d1r2", 2);
    }

    private static final Object[][][] ALL = {BASE, UPPER, TALL};

    static void promise22_parts() {
        for (Object[][] parts : ALL) {
            Check.same("parts", parts.length, of(parts).parts(0));
        }
        Check.same("most", 25, Shop.one("td2s9r9", 0).parts(0));
        Check.same("least", 5, Shop.one("b", 0).parts(0));
        Check.noIndex("module", () -> of(BASE).parts(1));
        Check.noIndex("module below", () -> of(BASE).parts(-1));
    }

    static void promise23_kindOf() {
        for (Object[][] parts : ALL) {
            Carcasswright shop = of(parts);
            for (int i = 0; i < parts.length; i++) {
                Check.same("kind of " + i, parts[i][0], shop.kindOf(0, i));
            }
            Check.noIndex("part", () -> shop.kindOf(0, parts.length));
            Check.noIndex("part below", () -> shop.kindOf(0, -1));
            Check.noIndex("module", () -> shop.kindOf(1, 0));
        }
    }

    static void promise24_size() {
        for (Object[][] parts : ALL) {
            Carcasswright shop = of(parts);
            for (int i = 0; i < parts.length; i++) {
                Check.same("length of " + i, parts[i][1], shop.size(0, i, 'l'));
                Check.same("width of " + i, parts[i][2], shop.size(0, i, 'w'));
                Check.same("thickness of " + i, parts[i][3], shop.size(0, i, 't'));
                Check.same("edges of " + i, parts[i][4], shop.size(0, i, 'e'));
            }
            Check.noIndex("part first", () -> shop.size(0, parts.length, 'x'));
            Check.noIndex("part below", () -> shop.size(0, -1, 'l'));
            Check.noIndex("module", () -> shop.size(1, 0, 'l'));
            Check.badArgument("letter", () -> shop.size(0, 0, 'x'));
            Check.badArgument("big letter", () -> shop.size(0, 0, 'L'));
        }
    }

    static void promise25_weight() {
        for (Object[][] parts : ALL) {
            Carcasswright shop = of(parts);
            for (int i = 0; i < parts.length; i++) {
                Check.same("weight of " + i, parts[i][5], shop.weight(0, i));
            }
            Check.noIndex("part", () -> shop.weight(0, parts.length));
            Check.noIndex("part below", () -> shop.weight(0, -1));
            Check.noIndex("module", () -> shop.weight(-1, 0));
        }
    }

    static void promise26_hinges() {
        Check.same("716 high", 4, Shop.one("bd2", 0).hinges(0));
        Check.same("one door", 2, Shop.one("ud1", 0).hinges(0));
        Check.same("2096 high", 8, Shop.one("td2", 0).hinges(0));
        Check.same("1736 high", 4, Shop.one("td1r2", 0).hinges(0));
        Check.same("1556 high", 3, Shop.one("td1r3", 0).hinges(0));
        Check.same("1016 high", 6, Shop.one("td2r6", 0).hinges(0));
        Check.same("836 high", 4, Shop.one("td2r7", 0).hinges(0));
        Check.same("no doors", 0, Shop.one("tr7", 0).hinges(0));
        Check.noIndex("module", () -> Shop.one("b", 0).hinges(1));
        Check.noIndex("module below", () -> Shop.one("b", 0).hinges(-1));
    }

    private static void holes(String text, int part, int... due) {
        Carcasswright shop = Shop.one(text, 1);
        String name = text + ", part " + part;
        Check.same("holes of " + name, due.length / 3, shop.holes(0, part));
        for (int i = 0; i < due.length / 3 && i < shop.holes(0, part); i++) {
            Check.same("along, " + name + ", hole " + i, due[3 * i], shop.hole(0, part, i, 'a'));
            Check.same("across, " + name + ", hole " + i, due[3 * i + 1], shop.hole(0, part, i, 'c'));
            Check.same("width, " + name + ", hole " + i, due[3 * i + 2], shop.hole(0, part, i, 'w'));
        }
        Check.noIndex("behind the last hole", () -> shop.hole(0, part, due.length / 3, 'a'));
    }

    static void promise27_holes() {
        Check.same("side", 7, Shop.one("bd2s2r1", 0).holes(0, 0));
        Check.same("second side, two doors", 7, Shop.one("bd2s2r1", 0).holes(0, 1));
        Check.same("second side, one door", 5, Shop.one("bd1s2r1", 0).holes(0, 1));
        Check.same("most", 29, Shop.one("td2s9r9", 0).holes(0, 0));
        Check.noIndex("part", () -> Shop.one("b", 0).holes(0, 5));
        Check.noIndex("part below", () -> Shop.one("b", 0).holes(0, -1));
        Check.noIndex("module", () -> Shop.one("b", 0).holes(1, 0));
    }

    static void promise28_hole() {
        holes("bd2s2r1", 0, 224, 37, 5, 224, 523, 5, 480, 37, 5, 480, 523, 5, 80, 37, 10, 456, 37, 10, 630, 100, 8);
        holes("bd2s2r1", 1, 224, 37, 5, 224, 523, 5, 480, 37, 5, 480, 523, 5, 80, 37, 10, 456, 37, 10, 630, 100, 8);
        holes("bd1s1", 1, 352, 37, 5, 352, 523, 5);
        holes("us1", 0, 288, 37, 5, 288, 283, 5);
        holes("br3", 1, 630, 100, 8, 450, 100, 8, 270, 100, 8);
        holes("td1", 0, 80, 37, 10, 725, 37, 10, 1370, 37, 10, 2016, 37, 10);
        holes("td1", 5, 80, 22, 35, 725, 22, 35, 1370, 22, 35, 2016, 22, 35);
        holes("td1r3", 5, 80, 22, 35, 778, 22, 35, 1476, 22, 35);
        holes("bd2r1", 6, 80, 22, 35, 456, 22, 35);
        holes("bd2r1", 7);
        for (int part = 2; part < 6; part++) {
            holes("bd2s1r1", part);
        }
        int[] due = new int[54];
        int[] along = {192, 416, 608, 832, 1024, 1248, 1440, 1664, 1888};
        for (int i = 0; i < 18; i++) {
            due[3 * i] = along[i / 2];
            due[3 * i + 1] = i % 2 == 0 ? 37 : 523;
            due[3 * i + 2] = 5;
        }
        holes("ts9", 0, due);
    }

    static void promise28_wrongHoles() {
        Carcasswright shop = Shop.one("bd1s1", 0);
        Check.noIndex("hole below", () -> shop.hole(0, 0, -1, 'a'));
        Check.noIndex("hole first", () -> shop.hole(0, 0, 4, 'x'));
        Check.noIndex("part", () -> shop.hole(0, 7, 0, 'a'));
        Check.noIndex("module", () -> shop.hole(1, 0, 0, 'a'));
        Check.noIndex("a part without holes", () -> shop.hole(0, 2, 0, 'a'));
        Check.badArgument("letter", () -> shop.hole(0, 0, 0, 'x'));
        Check.badArgument("big letter", () -> shop.hole(0, 0, 3, 'A'));
    }

    static void promise29_drills() {
        Carcasswright shop = Shop.one("bd1s1r1", 0);
        Check.same("side with all", 3, shop.drills(0, 0));
        Check.same("side without hinges", 2, shop.drills(0, 1));
        Check.same("bottom", 0, shop.drills(0, 2));
        Check.same("door", 1, shop.drills(0, 6));
        Check.same("front", 0, shop.drills(0, 7));
        Check.same("side without holes", 0, Shop.one("b", 0).drills(0, 0));
        Check.noIndex("part", () -> shop.drills(0, 8));
        Check.noIndex("part below", () -> shop.drills(0, -1));
        Check.noIndex("module", () -> shop.drills(1, 0));
    }

    private static void clamps(String text, int part, int first, int second) {
        Carcasswright shop = Shop.one(text, 0);
        Check.same("first clamp of " + text + part, first, shop.clamp(0, part, false));
        Check.same("second clamp of " + text + part, second, shop.clamp(0, part, true));
    }

    private static void noClamps(String text, int part) {
        Carcasswright shop = Shop.one(text, 0);
        Check.noElement("first clamp of " + text + part, () -> shop.clamp(0, part, false));
        Check.noElement("second clamp of " + text + part, () -> shop.clamp(0, part, true));
    }

    static void promise30_clamp() {
        clamps("bd2s1", 0, 150, 550);
        clamps("b", 0, 50, 450);
        clamps("bs3", 0, 50, 450);
        // 200 is 40 away from a hole at 160 that is 5 wide: the first place would be 250
        noClamps("bd1s3", 0);
        clamps("bd1s3", 1, 50, 450);
        // drawers' holes are 100 across: a clamp can be at 450 all the same
        clamps("br3", 0, 50, 450);
        // a door of 716: holes at 80 and 636, which 57 at least are to be away
        clamps("bd2", 5, 150, 550);
        // a side of 2100 whose first hole at 192 is just 42 away from 150
        clamps("ts9", 0, 50, 1100);
        clamps("td1s9", 0, 150, 1200);
        clamps("bw236", 2, 50, 150);
        noClamps("bw235", 2);
        noClamps("bw150", 2);
        noClamps("br1", 5);
        Carcasswright shop = Shop.one("b", 0);
        Check.noIndex("part", () -> shop.clamp(0, 5, true));
        Check.noIndex("part below", () -> shop.clamp(0, -1, false));
        Check.noIndex("module", () -> shop.clamp(1, 0, false));
    }

    private PartsTest() {
    }
}
