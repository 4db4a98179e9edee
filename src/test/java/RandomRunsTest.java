import java.lang.reflect.InvocationTargetException;
import java.lang.reflect.Method;
import java.util.ArrayList;
import java.util.Arrays;
import java.util.HashMap;
import java.util.List;
import java.util.Map;
import java.util.Random;

/** Random runs of at most 512 calls, each answer compared with that of the model. The seeds are fixed. */
final class RandomRunsTest {
    private static final int RUNS = 4000;
    private static final int MOST_WRONG = 10;

    private final Random random;
    private final Carcasswright shop = new Carcasswright();
    private final Model model = new Model();
    private final List<String> calls = new ArrayList<>();
    private final Map<String, Method> shopMethods = methodsOf(Carcasswright.class);
    private final Map<String, Method> modelMethods = methodsOf(Model.class);

    private RandomRunsTest(long seed) {
        random = new Random(seed);
    }

    static void promise52_randomRunsAnswerAsTheModel() {
        int wrongRuns = 0;
        for (int run = 0; run < RUNS && wrongRuns < MOST_WRONG; run++) {
            if (!new RandomRunsTest(run).goes(run)) {
                wrongRuns++;
            }
        }
    }

    private static Map<String, Method> methodsOf(Class<?> type) {
        Map<String, Method> methods = new HashMap<>();
        for (Method method : type.getDeclaredMethods()) {
            if (java.lang.reflect.Modifier.isPublic(method.getModifiers())) {
                methods.put(method.getName(), method);
            }
        }
        return methods;
    }

    private boolean goes(int run) {
        build();
        int stop = 200 + random.nextInt(313);
        boolean isRight = true;
        while (calls.size() < stop && isRight) {
            isRight = calls.size() > stop - 60 || random.nextInt(3) == 0 ? asks() : acts();
        }
        if (!isRight) {
            Check.tell("run " + run + ": " + calls.subList(Math.max(0, calls.size() - 40), calls.size()));
        }
        return isRight;
    }

    /** Makes a room, types and boards, so that most of what follows can be done. */
    private void build() {
        String ways = random.nextInt(3) == 0 ? "" + pick("ewns") + pick("ewns") + pick("ewnsx") : "enws";
        for (char way : ways.toCharArray()) {
            call("addWall", way, 500 + random.nextInt(random.nextBoolean() ? 800 : 4000));
        }
        if (random.nextBoolean()) {
            call("close");
        }
        for (int i = random.nextInt(5); i >= 0; i--) {
            text();
            call("addType");
        }
        for (int i = random.nextInt(7); i >= 0; i--) {
            addBoards();
        }
        if (random.nextBoolean()) {
            fillStock();
        }
        for (int i = random.nextInt(3); i > 0; i--) {
            obstacle(index(walls()));
        }
    }

    /** Boards of each kind, so that modules can be cut. */
    private boolean fillStock() {
        boolean isRight = true;
        for (int kind = 0; kind < 5; kind++) {
            int length = pick(2800, 2800, 2200, 1500 + random.nextInt(1300));
            int width = pick(2070, 2100, 1300, 700 + random.nextInt(1400));
            int colour = pick(0, 0, 0, 1, 2);
            isRight = isRight && call("addBoards", colour, kind < 2 ? 8 : 18, length, width, pick(1, 1, 2, 3));
        }
        for (int colour = 0; colour < 3; colour++) {
            isRight = isRight && call("addBoards", colour, 18, 2800, 2070, pick(1, 2));
        }
        return isRight;
    }

    private boolean obstacle(int wall) {
        int low = pick(random.nextInt(3003), random.nextInt(2200), 820, 1400, 2000, 2100, 0);
        int high = low + pick(0, 1, 1, 200, 580, 800);
        int from = random.nextInt(4000);
        return call("obstacle", wall, from, from + pick(-1, 0, 1, 20, 300, 300), low, high);
    }

    private char pick(String signs) {
        return signs.charAt(random.nextInt(signs.length()));
    }

    private int pick(int... numbers) {
        return numbers[random.nextInt(numbers.length)];
    }

    /** Mostly a number that there is, sometimes the one behind the last one, or below 0. */
    private int index(int count) {
        int number = random.nextInt(40);
        return number == 0 ? -1 : number == 1 ? count : number == 2 ? count + 7 : random.nextInt(Math.max(1, count));
    }

    private int walls() {
        for (int i = 0; i < 6; i++) {
            try {
                model.lengthOf(i);
            } catch (IndexOutOfBoundsException e) {
                return i;
            }
        }
        return 6;
    }

    private int types() {
        for (int i = 0; i < 9; i++) {
            try {
                model.told(i, 'w');
            } catch (IndexOutOfBoundsException e) {
                return i;
            }
        }
        return 9;
    }

    private boolean text() {
        StringBuilder text = new StringBuilder();
        text.append(random.nextInt(5) == 0 && types() > 0 ? "@" + random.nextInt(types()) : "" + pick("bbbut"));
        for (int i = random.nextInt(4); i >= 0; i--) {
            char item = pick("wwdddssr");
            int most = item == 'd' ? 3 : item == 's' ? 10 : 4;
            text.append(item).append(item == 'w' ? pick(149, 150, 151, 199, 235, 236, 300, 333, 400, 450, 601, 1200,
                1201, 150 + random.nextInt(1060)) : random.nextInt(most));
        }
        if (random.nextInt(8) == 0) {
            text.setCharAt(random.nextInt(text.length()), pick("b@wdsr0189x/:"));
        }
        boolean isRight = call("wipe");
        for (char sign : text.toString().toCharArray()) {
            isRight = isRight && call("type", sign);
        }
        return isRight && call("fault") && call("faultKind");
    }

    private boolean addBoards() {
        int thick = random.nextInt(20) == 0 ? pick(0, 9) : pick(18, 18, 8);
        int length = pick(300, 564, 716, 720, 1444, 2100, 2800, 2800, 299, 300 + random.nextInt(2520));
        int width = pick(300, 560, 664, 1124, 2070, 2100, 2070, 300 + random.nextInt(1820));
        int colour = random.nextInt(20) == 0 ? pick(-1, 3) : random.nextInt(3) == 0 ? 1 + random.nextInt(2) : 0;
        return call("addBoards", colour, thick, length, width, pick(1, 1, 2, 3, 1, 20, 0));
    }

    private int placeOnWall(int wall) {
        int length = wall >= 0 && wall < walls() ? model.lengthOf(wall) : 3000;
        int type = random.nextInt(Math.max(1, types()));
        int width = type < types() ? model.told(type, 'w') : 600;
        int place = pick(0, 20, 299, 300, 619, 620, length - width, length - width - 5, length - width - 60,
            random.nextInt(length + 20), random.nextInt(length + 20));
        if (model.modules() > 0 && random.nextInt(3) == 0) {
            int other = random.nextInt(model.modules());
            place = model.from(other) + pick(-width, width, 1 - width, 0, 600, 599);
        }
        return place < 0 && random.nextInt(10) > 0 ? 0 : place;
    }

    private boolean acts() {
        int module = index(model.modules());
        int wall = index(walls());
        switch (random.nextInt(25)) {
            case 0:
                return call("addWall", pick("ewnsq"), pick(499, 500, 700, 3000, 9999, 10000));
            case 1:
                return call("close");
            case 2:
                return call("setOff", wall, random.nextInt(62), pick(-1, 0, 5, 60, 61));
            case 3:
                return obstacle(wall);
            case 4:
            case 5:
                return text() && call("addType");
            case 6:
                return call("type", pick("butwdsr0123456789@x"));
            case 7:
            case 8:
            case 9:
            case 10:
                int colour = random.nextInt(20) == 0 ? 3 : random.nextInt(3);
                return call("place", index(types()), wall, placeOnWall(wall), colour) && asksCauses();
            case 11:
                return call("shift", module, placeOnWall(wall)) && asksCauses();
            case 12:
            case 13:
                return call("change", module, index(types())) && asksCauses();
            case 14:
            case 15:
                return model.boards() < 12 ? fillStock() : addBoards();
            case 16:
            case 17:
                return call("cut", module) && call("boards") && call("offcuts") && call("area", 'd')
                    && (model.boards() == 0 || call("board", model.boards() - 1, pick("lw")));
            case 18:
            case 19:
                return call("lose", module, index(count("parts", module)));
            case 20:
                return cutAndLose(module);
            case 21:
                return random.nextBoolean() ? call("setRate", index(3), pick(-1, 0, 7, 33, 100, 101))
                    : call("setSetup", pick(-1, 0, 1, 5, 20, 99, 100));
            default:
                return call("job", index(3), pick(0, 1, 3, 5, 9, 20, 99, 100), pick(0, 4, 9, 15, 30, 999, 1000));
        }
    }

    /** Cuts again and again what was lost, so that offcuts are cut. */
    private boolean cutAndLose(int module) {
        boolean isRight = true;
        for (int i = random.nextInt(6); i >= 0 && isRight; i--) {
            isRight = call("cut", module);
            for (int k = random.nextInt(4); k >= 0 && isRight; k--) {
                isRight = call("lose", module, random.nextInt(Math.max(1, count("parts", module))));
            }
        }
        for (int i = 0; i < model.boards() && isRight; i++) {
            isRight = call("board", i, 'l') && call("board", i, 'w');
        }
        return isRight;
    }

    private int count(String name, int... arguments) {
        try {
            Object[] all = Arrays.stream(arguments).boxed().toArray();
            return ((Number) modelMethods.get(name).invoke(model, all)).intValue();
        } catch (ReflectiveOperationException e) {
            return 3;
        }
    }

    private boolean asksCauses() {
        return call("clash", 0) && call("clashNumber", 0) && call("clash", 1) && call("clashNumber", 1);
    }

    private boolean asks() {
        int module = index(model.modules());
        int part = index(count("parts", module));
        int wall = index(walls());
        switch (random.nextInt(16)) {
            case 0:
                return call("lengthOf", wall) && call("isClosedRoom");
            case 1:
                return call("told", index(types()), pick("wdsrhx"));
            case 2:
                return call("clash", index(2)) && call("clashNumber", index(2));
            case 3:
                return call("from", module) && call("parts", module) && call("uncut", module);
            case 4:
                return call("free", wall, random.nextBoolean()) && call("widest", wall, random.nextBoolean());
            case 5:
                return call("kindOf", module, part) && call("size", module, part, pick("lwtex"));
            case 6:
                return call("weight", module, part) && call("hinges", module) && call("stepAt", module, part);
            case 7:
                return call("holes", module, part) && call("drills", module, part);
            case 8:
            case 9:
                int side = random.nextInt(2);
                return call("hole", module, side, index(count("holes", module, side)), pick("acwx"))
                    && call("hole", module, part, index(count("holes", module, part)), pick("acw"));
            case 10:
                return call("clamp", module, pick(part, part, 0, 1), random.nextBoolean());
            case 11:
                return call("boards") && call("offcuts") && call("board", index(model.boards()), pick("lwtcx"));
            case 12:
                return call("edged", index(3)) && call("price", module);
            case 13:
                int most = pick(0, 1, 5000, 9000, 20000, 99999, 100000, random.nextInt(30000));
                return call("packs", module, most) && call("packOf", module, most, part);
            case 14:
                return call("lateness") && call("jobAt", index(6));
            default:
                return call("area", pick("cspdxz")) && call("cutShare") && call("meanWidth") && call("isSound")
                    && call("modules");
        }
    }

    private boolean call(String name, Object... arguments) {
        Object due = answer(modelMethods.get(name), model, arguments);
        Object got = answer(shopMethods.get(name), shop, arguments);
        calls.add(name + Arrays.toString(arguments) + "=" + got);
        if (!due.equals(got)) {
            Check.tell(name + Arrays.toString(arguments) + " answered " + got + ", due is " + due);
        }
        return due.equals(got);
    }

    /** An exception is told by its class: the machine's own ones are of other classes than those of throws. */
    private static Object answer(Method method, Object object, Object[] arguments) {
        try {
            return method.invoke(object, arguments);
        } catch (InvocationTargetException e) {
            return e.getCause().getClass();
        } catch (IllegalAccessException e) {
            throw new IllegalStateException(e);
        }
    }
}
