import java.lang.reflect.Constructor;
import java.lang.reflect.Field;
import java.lang.reflect.Method;
import java.lang.reflect.Modifier;
import java.util.Arrays;
import java.util.HashSet;
import java.util.Set;
import java.util.TreeSet;

/** The face is that of the document, and nothing beside it. */
final class FaceTest {
    private static final String[] FACE = {
        "int addWall(char,int)", "int close()", "int lengthOf(int)", "boolean isClosedRoom()",
        "int setOff(int,int,int)", "int obstacle(int,int,int,int,int)", "int type(char)", "int wipe()",
        "int fault()", "char faultKind()", "int addType()", "int told(int,char)", "int place(int,int,int,int)",
        "int shift(int,int)", "int change(int,int)", "char clash(int)", "int clashNumber(int)", "int from(int)",
        "int free(int,boolean)", "int widest(int,boolean)", "int parts(int)", "char kindOf(int,int)",
        "int size(int,int,char)", "int weight(int,int)", "int hinges(int)", "int holes(int,int)",
        "int hole(int,int,int,char)", "int drills(int,int)", "int clamp(int,int,boolean)",
        "int addBoards(int,int,int,int,int)", "int boards()", "int offcuts()", "int board(int,char)",
        "int uncut(int)", "int cut(int)", "int lose(int,int)", "int edged(int)", "int setRate(int,int)",
        "int price(int)", "int packs(int,int)", "int packOf(int,int,int)", "int stepAt(int,int)",
        "int job(int,int,int)", "int setSetup(int)", "int lateness()", "int jobAt(int)", "int modules()",
        "long area(char)", "float cutShare()", "double meanWidth()", "boolean isSound()",
    };

    static void rule01_theFace() {
        Set<String> found = new TreeSet<>();
        Set<String> names = new HashSet<>();
        for (Method method : Carcasswright.class.getDeclaredMethods()) {
            if (Modifier.isPublic(method.getModifiers())) {
                String types = Arrays.toString(Arrays.stream(method.getParameterTypes()).map(Class::getName).toArray());
                String inside = types.substring(1, types.length() - 1).replace(" ", "");
                found.add(method.getReturnType().getName() + " " + method.getName() + "(" + inside + ")");
                names.add(method.getName());
            }
        }
        Check.same("the face", new TreeSet<>(Arrays.asList(FACE)), found);
        Check.same("final", true, Modifier.isFinal(Carcasswright.class.getModifiers()));
        Check.same("constructors", 1, Carcasswright.class.getDeclaredConstructors().length);
        for (Constructor<?> constructor : Carcasswright.class.getConstructors()) {
            Check.same("without arguments", 0, constructor.getParameterCount());
        }
        hasNothingElse(Carcasswright.class, names);
    }

    private static void hasNothingElse(Class<?> face, Set<String> names) {
        for (Method method : face.getDeclaredMethods()) {
            if (!Modifier.isPublic(method.getModifiers())) {
                Check.same(method.getName() + " is private", true, Modifier.isPrivate(method.getModifiers()));
                Check.same(method.getName() + " is no public name", false, names.contains(method.getName()));
            }
        }
        for (Field field : face.getDeclaredFields()) {
            Check.same(field.getName() + " is private", true, Modifier.isPrivate(field.getModifiers()));
        }
        for (Class<?> inside : face.getDeclaredClasses()) {
            Check.same(inside.getName() + " is static", true, Modifier.isStatic(inside.getModifiers()));
            Check.same(inside.getName() + " is not public", false, Modifier.isPublic(inside.getModifiers()));
            for (Method method : inside.getDeclaredMethods()) {
                Check.same(method.getName() + " is no public name", false, names.contains(method.getName()));
            }
        }
    }

    private FaceTest() {
    }
}
