import java.lang.reflect.Constructor;
import java.lang.reflect.Field;
import java.lang.reflect.Member;
import java.lang.reflect.Method;
import java.lang.reflect.Modifier;
import java.util.ArrayList;
import java.util.HashSet;
import java.util.List;
import java.util.Set;

/** The public face: what the document shows, with its signatures, and nothing else that is not private. */
final class FaceTest extends Checks {
    private static final String[] NAMES = {"dusk", "write", "march", "road", "sleep", "pass", "campOf", "pageOf",
        "reaches", "matches", "matchesAgain", "captain", "holders", "letters", "would", "captainIn", "ranked",
        "describe", "show", "sign", "append", "read", "refusal", "account", "isWell", "share", "undo", "save",
        "restore"};
    private static final int[] PARAMETERS = {1, 2, 1, 3, 2, 1, 2, 3, 2, 2, 2, 0, 2, 1, 1, 0, 1, 1, 1, 1, 1, 0, 1, 1, 0,
        0, 0, 0, 0};

    public static void main(String[] args) {
        Class<?> face = CaravanLogs.class;
        due("public and final", face.getModifiers() & (Modifier.PUBLIC | Modifier.FINAL),
            Modifier.PUBLIC | Modifier.FINAL);
        Constructor<?>[] constructors = face.getDeclaredConstructors();
        due("constructors", constructors.length, 1);
        due("a public constructor", constructors[0].getModifiers(), Modifier.PUBLIC);
        due("its parameters", constructors[0].getParameterCount(), 0);
        methods(face);
        fields(face);
        for (Class<?> inside : face.getDeclaredClasses()) {
            int modifiers = inside.getModifiers();
            due("static inside: " + inside, modifiers & Modifier.STATIC, Modifier.STATIC);
            due("not public: " + inside, modifiers & (Modifier.PUBLIC | Modifier.PROTECTED), 0);
            for (Method method : inside.getDeclaredMethods()) {
                due("a name of its own: " + method, List.of(NAMES).contains(method.getName()) ? 1 : 0, 0);
            }
        }
        end();
    }

    private static void methods(Class<?> face) {
        List<String> found = new ArrayList<>();
        Set<String> hidden = new HashSet<>();
        for (Method method : face.getDeclaredMethods()) {
            if (isHidden(method)) {
                hidden.add(method.getName());
                continue;
            }
            due("public, not static: " + method, method.getModifiers(), Modifier.PUBLIC);
            due("an int: " + method, method.getReturnType() == int.class ? 1 : 0, 1);
            for (Class<?> parameter : method.getParameterTypes()) {
                due("an int each: " + method, parameter == int.class ? 1 : 0, 1);
            }
            due("nothing thrown: " + method, method.getExceptionTypes().length, 0);
            found.add(method.getName() + " " + method.getParameterCount());
        }
        due("methods", found.size(), NAMES.length);
        for (int i = 0; i < NAMES.length; i++) {
            due("there is " + NAMES[i], found.contains(NAMES[i] + " " + PARAMETERS[i]) ? 1 : 0, 1);
            due("no private " + NAMES[i], hidden.contains(NAMES[i]) ? 1 : 0, 0);
        }
    }

    private static void fields(Class<?> face) {
        int constants = 0;
        for (Field field : face.getDeclaredFields()) {
            if (!isHidden(field)) {
                constants++;
                due("a constant: " + field, field.getModifiers(), Modifier.PUBLIC | Modifier.STATIC | Modifier.FINAL);
                due("an int: " + field, field.getType() == int.class ? 1 : 0, 1);
            } else if (Modifier.isStatic(field.getModifiers())) {
                due("static and final: " + field, field.getModifiers() & Modifier.FINAL, Modifier.FINAL);
            }
        }
        due("constants", constants, 4);
    }

    private static boolean isHidden(Member member) {
        return Modifier.isPrivate(member.getModifiers()) || member.isSynthetic();
    }
}
