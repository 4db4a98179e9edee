import java.util.Arrays;

/** The edges of what the document says of parts, holes and clamps, sentence by sentence. */
final class PartsEdgesTest {
    /** Kind, length, width, thickness, edges and weight of each part of the text's module. */
    private static void parts(String text, int colour, Object[]... due) {
        Carcasswright shop = Shop.one(text, colour);
        Check.same("parts of " + text, due.length, shop.parts(0));
        for (int part = 0; part < due.length; part++) {
            String name = text + ", part " + part;
            Check.same("kind of " + name, due[part][0], shop.kindOf(0, part));
            for (int i = 0; i < 4; i++) {
                Check.same("ltwe".charAt(i) + " of " + name, due[part][1 + i], shop.size(0, part, "lwte".charAt(i)));
            }
            Check.same("weight of " + name, due[part][5], shop.weight(0, part));
        }
    }

    private static Object[] part(Object... told) {
        return told;
    }

    static void promise24_narrowestModules() {
        parts("bw150d1s1r1", 1, part('s', 720, 560, 18, 1, 5080), part('s', 720, 560, 18, 1, 5080),
            part('b', 114, 560, 18, 1, 804), part('t', 114, 100, 18, 1, 143), part('k', 716, 146, 8, 0, 585),
            part('h', 112, 540, 18, 1, 762), part('d', 536, 147, 18, 15, 992), part('f', 176, 146, 18, 15, 323));
        parts("uw150d2", 2, part('s', 600, 320, 18, 1, 2419), part('s', 600, 320, 18, 1, 2419),
            part('b', 114, 320, 18, 1, 459), part('t', 114, 320, 18, 1, 459), part('k', 596, 146, 8, 0, 487),
            part('d', 596, 72, 18, 15, 540), part('d', 596, 72, 18, 15, 540));
        parts("uw151d2", 2, part('s', 600, 320, 18, 1, 2419), part('s', 600, 320, 18, 1, 2419),
            part('b', 115, 320, 18, 1, 463), part('t', 115, 320, 18, 1, 463), part('k', 596, 147, 8, 0, 490),
            part('d', 596, 72, 18, 15, 540), part('d', 596, 72, 18, 15, 540));
        parts("tw150", 0, part('s', 2100, 560, 18, 1, 14817), part('s', 2100, 560, 18, 1, 14817),
            part('b', 114, 560, 18, 1, 804), part('t', 114, 560, 18, 1, 804), part('k', 2096, 146, 8, 0, 1713));
    }

    static void promise24_widestModules() {
        parts("bw1200d2s1", 0, part('s', 720, 560, 18, 1, 5080), part('s', 720, 560, 18, 1, 5080),
            part('b', 1164, 560, 18, 1, 8213), part('t', 1164, 100, 18, 1, 1466), part('k', 716, 1196, 8, 0, 4795),
            part('h', 1162, 540, 18, 1, 7906), part('d', 716, 597, 18, 15, 5385), part('d', 716, 597, 18, 15, 5385));
        parts("uw1199d2", 1, part('s', 600, 320, 18, 1, 2419), part('s', 600, 320, 18, 1, 2419),
            part('b', 1163, 320, 18, 1, 4689), part('t', 1163, 320, 18, 1, 4689), part('k', 596, 1195, 8, 0, 3988),
            part('d', 596, 596, 18, 15, 4475), part('d', 596, 596, 18, 15, 4475));
        parts("tw1200d1", 2, part('s', 2100, 560, 18, 1, 14817), part('s', 2100, 560, 18, 1, 14817),
            part('b', 1164, 560, 18, 1, 8213), part('t', 1164, 560, 18, 1, 8213), part('k', 2096, 1196, 8, 0, 14038),
            part('d', 2096, 1197, 18, 15, 31612));
    }

    static void promise23_kindsInTheirOrder() {
        String[] texts = {"b", "bs1", "bd1", "br1", "bd2s2r2", "td2s9r9", "us9", "br3", "ud1r2"};
        String[] kinds = {"ssbtk", "ssbtkh", "ssbtkd", "ssbtkf", "ssbtkhhddff", "ssbtkhhhhhhhhhddfffffffff",
            "ssbtkhhhhhhhhh", "ssbtkfff", "ssbtkdff"};
        for (int i = 0; i < texts.length; i++) {
            Carcasswright shop = Shop.one(texts[i], 0);
            Check.same("parts of " + texts[i], kinds[i].length(), shop.parts(0));
            for (int part = 0; part < kinds[i].length(); part++) {
                Check.same(texts[i] + " " + part, kinds[i].charAt(part), shop.kindOf(0, part));
            }
        }
    }

    /** By drawers from 0 on, up to those with which a door is 200 high. */
    private static final int[][] DOORS = {
        {716, 536, 356}, {596, 416, 236}, {2096, 1916, 1736, 1556, 1376, 1196, 1016, 836, 656, 476},
    };
    private static final int[][][] HINGES = {
        {{80, 636}, {80, 456}, {80, 276}}, {{80, 516}, {80, 336}, {80, 156}},
        {{80, 725, 1370, 2016}, {80, 665, 1250, 1836}, {80, 605, 1130, 1656}, {80, 778, 1476}, {80, 688, 1296},
            {80, 598, 1116}, {80, 508, 936}, {80, 756}, {80, 576}, {80, 396}},
    };

    static void promise26_hingesByTheDoorsHeight() {
        for (int body = 0; body < 3; body++) {
            for (int drawers = 0; drawers < DOORS[body].length; drawers++) {
                for (int doors = 0; doors <= 2; doors++) {
                    Carcasswright shop = Shop.one("" + "but".charAt(body) + "d" + doors + "r" + drawers, 0);
                    Check.same("hinges", doors * HINGES[body][drawers].length, shop.hinges(0));
                    hingesAreDue(shop, doors, DOORS[body][drawers], HINGES[body][drawers]);
                }
            }
        }
    }

    private static void hingesAreDue(Carcasswright shop, int doors, int high, int[] due) {
        for (int door = 0; door < doors; door++) {
            Check.same("height", high, shop.size(0, 5 + door, 'l'));
            Check.same("holes of a door", due.length, shop.holes(0, 5 + door));
            for (int hole = 0; hole < due.length; hole++) {
                Check.same("along", due[hole], shop.hole(0, 5 + door, hole, 'a'));
                Check.same("across", 22, shop.hole(0, 5 + door, hole, 'c'));
                Check.same("wide", 35, shop.hole(0, 5 + door, hole, 'w'));
                Check.same("along on the side", due[hole], shop.hole(0, door, hole, 'a'));
                Check.same("across on the side", 37, shop.hole(0, door, hole, 'c'));
                Check.same("wide on the side", 10, shop.hole(0, door, hole, 'w'));
            }
        }
    }

    /** By shelves from 0 on: where they are along the sides. */
    private static final int[][] BASE_SHELVES = {
        {}, {352}, {224, 480}, {160, 352, 512}, {128, 288, 416, 576}, {96, 224, 352, 480, 576},
        {96, 192, 288, 384, 512, 608}, {64, 160, 256, 352, 448, 512, 608}, {64, 160, 224, 320, 384, 480, 544, 640},
        {64, 128, 192, 288, 352, 416, 480, 576, 640},
    };
    private static final int[][] UPPER_SHELVES = {
        {}, {288}, {192, 384}, {128, 288, 448}, {96, 224, 352, 480}, {96, 192, 288, 384, 480},
        {64, 160, 256, 320, 416, 512}, {64, 128, 224, 288, 352, 448, 512}, {64, 128, 192, 256, 320, 384, 448, 512},
        {32, 96, 160, 224, 288, 352, 416, 480, 512},
    };
    private static final int[][] TALL_SHELVES = {
        {}, {1024}, {672, 1376}, {512, 1024, 1568}, {416, 832, 1248, 1664}, {320, 672, 1024, 1376, 1728},
        {288, 576, 896, 1184, 1472, 1792}, {256, 512, 768, 1024, 1312, 1568, 1824},
        {224, 448, 672, 928, 1152, 1376, 1632, 1856}, {192, 416, 608, 832, 1024, 1248, 1440, 1664, 1888},
    };

    static void promise28_shelvesDownToNumbersOf32() {
        int[][][] all = {BASE_SHELVES, UPPER_SHELVES, TALL_SHELVES};
        for (int body = 0; body < 3; body++) {
            for (int shelves = 0; shelves <= 9; shelves++) {
                Carcasswright shop = Shop.one("" + "but".charAt(body) + "s" + shelves, 0);
                int[] due = all[body][shelves];
                int deep = body == 1 ? 320 : 560;
                for (int side = 0; side < 2; side++) {
                    Check.same("holes of " + shelves, 2 * shelves, shop.holes(0, side));
                    for (int hole = 0; hole < 2 * shelves; hole++) {
                        Check.same(shelves + ", hole " + hole, due[hole / 2], shop.hole(0, side, hole, 'a'));
                        Check.same("across", hole % 2 == 0 ? 37 : deep - 37, shop.hole(0, side, hole, 'c'));
                        Check.same("wide", 5, shop.hole(0, side, hole, 'w'));
                    }
                }
            }
        }
    }

    static void promise28_drawersFromTheTop() {
        String[] texts = {"br3", "ur3", "tr9"};
        int[] highs = {720, 600, 2100};
        for (int i = 0; i < 3; i++) {
            Carcasswright shop = Shop.one(texts[i], 0);
            int drawers = texts[i].charAt(2) - '0';
            for (int side = 0; side < 2; side++) {
                Check.same("holes", drawers, shop.holes(0, side));
                for (int hole = 0; hole < drawers; hole++) {
                    Check.same("along", highs[i] - 90 - 180 * hole, shop.hole(0, side, hole, 'a'));
                    Check.same("across", 100, shop.hole(0, side, hole, 'c'));
                    Check.same("wide", 8, shop.hole(0, side, hole, 'w'));
                }
            }
        }
        Check.same("the last one of nine", 570, Shop.one("tr9", 0).hole(0, 0, 8, 'a'));
    }

    /** Shelves first, then hinges, then drawers; the second side has no hinges of one door only. */
    static void promise28_holesInTheirOrder() {
        Carcasswright shop = Shop.one("bd1s1r1", 0);
        int[][] first = {{352, 37, 5}, {352, 523, 5}, {80, 37, 10}, {456, 37, 10}, {630, 100, 8}};
        int[][] second = {{352, 37, 5}, {352, 523, 5}, {630, 100, 8}};
        for (int side = 0; side < 2; side++) {
            int[][] due = side == 0 ? first : second;
            int[][] got = new int[shop.holes(0, side)][3];
            for (int hole = 0; hole < got.length; hole++) {
                for (int i = 0; i < 3; i++) {
                    got[hole][i] = shop.hole(0, side, hole, "acw".charAt(i));
                }
            }
            Check.same("holes of side " + side, Arrays.deepToString(due), Arrays.deepToString(got));
        }
        for (int part : new int[] {2, 3, 4, 5, 7}) {
            Check.same("no holes", 0, shop.holes(0, part));
            Check.same("no drills", 0, shop.drills(0, part));
        }
    }

    static void promise29_drillsOfASide() {
        String[] texts = {"b", "bs1", "bs9", "bd1", "bd2", "br1", "br3", "bs1d1", "bs1d2", "bs1r1", "bd1r1", "bd2r1",
            "bs1d1r1", "bs1d2r1"};
        int[] first = {0, 1, 1, 1, 1, 1, 1, 2, 2, 2, 2, 2, 3, 3};
        int[] second = {0, 1, 1, 0, 1, 1, 1, 1, 2, 2, 1, 2, 2, 3};
        for (int i = 0; i < texts.length; i++) {
            Check.same("first side of " + texts[i], first[i], Shop.one(texts[i], 0).drills(0, 0));
            Check.same("second side of " + texts[i], second[i], Shop.one(texts[i], 0).drills(0, 1));
        }
        Check.same("second door", 1, Shop.one("bd2", 0).drills(0, 6));
        Check.same("tall door with four holes", 1, Shop.one("td1", 0).drills(0, 5));
    }

    private static void clamps(String text, int part, int first, int second) {
        Calls.due(first, Shop.one(text, 0), "clamp", 0, part, false);
        Calls.due(second, Shop.one(text, 0), "clamp", 0, part, true);
    }

    private static void noClamps(String text, int part) {
        Refusals.due(() -> Shop.one(text, 0), Calls.NO_ELEMENT, "clamp", 0, part, false);
        Refusals.due(() -> Shop.one(text, 0), Calls.NO_ELEMENT, "clamp", 0, part, true);
    }

    /** Bottoms are as long as the module is wide, less 36. */
    static void promise30_halfOfTheLengthBehind() {
        noClamps("bw150", 2);
        noClamps("bw235", 2);
        // 200 long: 50, and 150, which is 100 behind it and 50 ahead of the end
        clamps("bw236", 2, 50, 150);
        // 201 long: its half is 100, cut
        clamps("bw237", 2, 50, 150);
        // 202 long: its half is 101; 200 would be less than 50 ahead of the end up to 249
        noClamps("bw238", 2);
        noClamps("bw285", 2);
        clamps("bw286", 2, 50, 200);
        clamps("bw287", 2, 50, 200);
        // 300 to 302 long: the half of 300 is 150, that of 302 is 151
        clamps("bw336", 2, 50, 200);
        clamps("bw337", 2, 50, 200);
        clamps("bw338", 2, 50, 250);
        clamps("bw1200", 2, 50, 650);
        clamps("bw1200", 4, 50, 450);
        noClamps("bw187s1", 5);
        clamps("bw238s1", 5, 50, 150);
        noClamps("bw237s1", 5);
        noClamps("br1", 5);
    }

    static void promise30_awayFromHoles() {
        // 150 is just 42 away from 192, a hole 5 wide, and 650 is 42 away from 608
        clamps("bd1s6r1", 0, 150, 650);
        // hinges at 636 are in the way of 650, and behind it there is no place
        noClamps("bd1s6", 0);
        clamps("bd1s6", 1, 50, 450);
        // 200 is 44 away from 156, a hole 10 wide: 45 would do
        clamps("ud1r2", 0, 250, 550);
        clamps("ud1r2", 1, 50, 350);
        // 200 is 40 away from 160, a hole 5 wide: 42 would do
        clamps("bs3", 0, 50, 450);
        noClamps("bd1s3", 0);
        // 1200 is 16 away from 1184; 1250 is 46 away from 1296, 10 wide
        clamps("td1r4s6", 0, 150, 1250);
        clamps("td1s9", 0, 150, 1200);
        // holes of drawers and the second row of shelves are more than 60 across
        clamps("br3", 0, 50, 450);
        clamps("tr9", 0, 50, 1100);
    }

    static void promise30_clampsOfDoors() {
        clamps("bd1", 5, 150, 550);
        noClamps("bd1r1", 5);
        noClamps("bd1r2", 5);
        clamps("ud1", 5, 150, 450);
        noClamps("ud1r1", 5);
        noClamps("ud1r2", 5);
        clamps("td1", 5, 150, 1200);
        clamps("td1r1", 5, 150, 1150);
        clamps("td1r2", 5, 150, 1050);
        clamps("td1r3", 5, 150, 950);
        clamps("td1r4", 5, 150, 850);
        clamps("td1r5", 5, 150, 750);
        clamps("td1r6", 5, 150, 700);
        clamps("td1r7", 5, 150, 600);
        clamps("td1r8", 5, 150, 500);
        noClamps("td1r9", 5);
    }

    private PartsEdgesTest() {
    }
}
