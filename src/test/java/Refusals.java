import java.util.ArrayList;
import java.util.List;
import java.util.function.Supplier;

/**
 * Calls that are refused: with just the exception that is due, and with nothing changed. Whether nothing changed is
 * seen by asking two workshops that were made alike, only one of which was called, in several ways: some questions
 * change what they ask for (to read which parts are cut takes losing them), and an object serves for 512 calls.
 */
final class Refusals {
    private interface View {
        void ask(Carcasswright shop, List<Object> answers);
    }

    private static final View[] VIEWS = {
        Refusals::askRoom, Refusals::askTypes, Refusals::askText, Refusals::askModules, Refusals::askCutParts,
        Refusals::askBoards, Refusals::askSaw, Refusals::askMoneyAndJobs,
    };

    /** The call is refused and changes nothing. */
    static void due(Supplier<Carcasswright> make, Class<?> exception, String name, Object... arguments) {
        isThrown(make, exception, name, arguments);
        for (View view : VIEWS) {
            sameAnswers(make, view, name, arguments);
        }
        sameAnswers(make, Refusals::askCauses, name, arguments);
    }

    /** The call is refused and changes nothing but the causes, which are then the letters and numbers told. */
    static void dueWithCauses(Supplier<Carcasswright> make, Object[] causes, String name, Object... arguments) {
        isThrown(make, Calls.UNSUPPORTED, name, arguments);
        for (View view : VIEWS) {
            sameAnswers(make, view, name, arguments);
        }
        Carcasswright shop = make.get();
        Calls.answer(shop, name, arguments);
        causes(shop, causes);
    }

    /** The causes of what was refused last are just these letters and numbers. */
    static void causes(Carcasswright shop, Object... lettersAndNumbers) {
        for (int i = 0; i < lettersAndNumbers.length; i += 2) {
            Calls.due(lettersAndNumbers[i], shop, "clash", i / 2);
            Calls.due(lettersAndNumbers[i + 1], shop, "clashNumber", i / 2);
        }
        Calls.due(Calls.NO_ELEMENT, shop, "clash", lettersAndNumbers.length / 2);
        Calls.due(Calls.NO_ELEMENT, shop, "clashNumber", lettersAndNumbers.length / 2);
    }

    private static void isThrown(Supplier<Carcasswright> make, Class<?> exception, String name, Object... arguments) {
        Calls.due(exception, make.get(), name, arguments);
    }

    private static void sameAnswers(Supplier<Carcasswright> make, View view, String name, Object... arguments) {
        List<Object> due = new ArrayList<>();
        view.ask(make.get(), due);
        List<Object> got = new ArrayList<>();
        Carcasswright called = make.get();
        Calls.answer(called, name, arguments);
        view.ask(called, got);
        Check.same("questions behind " + Calls.text(name, arguments), due.size(), got.size());
        for (int i = 0; i < Math.min(due.size(), got.size()); i++) {
            Check.same("a question behind " + Calls.text(name, arguments), due.get(i), got.get(i));
        }
    }

    private static void ask(Carcasswright shop, List<Object> answers, String name, Object... arguments) {
        answers.add(Calls.text(name, arguments) + "=" + Calls.answer(shop, name, arguments));
    }

    private static void askCauses(Carcasswright shop, List<Object> answers) {
        for (int depth = 0; depth < 3; depth++) {
            ask(shop, answers, "clash", depth);
            ask(shop, answers, "clashNumber", depth);
        }
    }

    private static void askRoom(Carcasswright shop, List<Object> answers) {
        ask(shop, answers, "isClosedRoom");
        for (int wall = 0; wall < 7; wall++) {
            ask(shop, answers, "lengthOf", wall);
            for (boolean isUpper : new boolean[] {false, true}) {
                ask(shop, answers, "free", wall, isUpper);
                ask(shop, answers, "widest", wall, isUpper);
            }
        }
        for (int wall = 0; wall < 6; wall++) {
            ask(shop, answers, "setOff", wall, 0, 0);
        }
        for (int place = 0; place < 2500; place += 150) {
            Object placed = Calls.answer(shop, "place", 1, place % 3, place, 0);
            answers.add(placed);
            if (placed == Calls.UNSUPPORTED) {
                askCauses(shop, answers);
            }
        }
        for (int i = 0; i < 9; i++) {
            ask(shop, answers, "obstacle", 0, 0, 9999, 0, 3000);
        }
        ask(shop, answers, "close");
        ask(shop, answers, "addWall", 'e', 500);
    }

    private static void askTypes(Carcasswright shop, List<Object> answers) {
        for (int type = 0; type < 9; type++) {
            for (char what : "wdsrh".toCharArray()) {
                ask(shop, answers, "told", type, what);
            }
        }
        ask(shop, answers, "fault");
        ask(shop, answers, "faultKind");
        ask(shop, answers, "wipe");
    }

    private static void askText(Carcasswright shop, List<Object> answers) {
        ask(shop, answers, "addType");
        for (char what : "wdsrh".toCharArray()) {
            ask(shop, answers, "told", 4, what);
        }
        ask(shop, answers, "type", 's');
        ask(shop, answers, "fault");
        ask(shop, answers, "faultKind");
        ask(shop, answers, "wipe");
    }

    private static void askModules(Carcasswright shop, List<Object> answers) {
        ask(shop, answers, "modules");
        for (int module = 0; module < 17; module++) {
            ask(shop, answers, "from", module);
            ask(shop, answers, "parts", module);
            ask(shop, answers, "uncut", module);
            ask(shop, answers, "price", module);
        }
        for (int module = 0; module < 3; module++) {
            ask(shop, answers, "hinges", module);
            ask(shop, answers, "packs", module, 9000);
            for (int part = 0; part < 9; part++) {
                ask(shop, answers, "kindOf", module, part);
                ask(shop, answers, "size", module, part, 'l');
                ask(shop, answers, "size", module, part, 'w');
                ask(shop, answers, "holes", module, part);
            }
        }
        ask(shop, answers, "shift", 0, 999);
    }

    private static void askCutParts(Carcasswright shop, List<Object> answers) {
        for (int module = 0; module < 17; module++) {
            for (int part = 0; part < 9; part++) {
                ask(shop, answers, "lose", module, part);
            }
        }
        ask(shop, answers, "area", 'x');
    }

    private static void askBoards(Carcasswright shop, List<Object> answers) {
        ask(shop, answers, "boards");
        ask(shop, answers, "offcuts");
        for (int board = 0; board < 61; board++) {
            for (char what : "lwtc".toCharArray()) {
                ask(shop, answers, "board", board, what);
            }
        }
        for (char what : "cspdx".toCharArray()) {
            ask(shop, answers, "area", what);
        }
        ask(shop, answers, "addBoards", 0, 18, 300, 300, 1);
    }

    private static void askSaw(Carcasswright shop, List<Object> answers) {
        for (int module = 0; module < 3; module++) {
            ask(shop, answers, "cut", module);
        }
        ask(shop, answers, "offcuts");
        for (int board = 0; board < 61; board++) {
            ask(shop, answers, "board", board, 'l');
            ask(shop, answers, "board", board, 'w');
        }
        ask(shop, answers, "area", 'd');
    }

    private static void askMoneyAndJobs(Carcasswright shop, List<Object> answers) {
        for (String name : new String[] {"cutShare", "meanWidth", "isSound", "lateness"}) {
            ask(shop, answers, name);
        }
        for (int index = 0; index < 7; index++) {
            ask(shop, answers, "jobAt", index);
        }
        for (int colour = 0; colour < 3; colour++) {
            ask(shop, answers, "edged", colour);
            ask(shop, answers, "setRate", colour, 1);
        }
        ask(shop, answers, "setSetup", 1);
        for (int i = 0; i < 7; i++) {
            ask(shop, answers, "job", 0, 1, 0);
            ask(shop, answers, "lateness");
        }
    }

    private Refusals() {
    }
}
