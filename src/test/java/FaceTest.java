import java.lang.reflect.Constructor;
import java.lang.reflect.Field;
import java.lang.reflect.Method;
import java.lang.reflect.Modifier;
import java.util.Set;
import java.util.TreeSet;

/** The class has the document's face and no other (LANGUAGE.md, rule 1). */
public final class FaceTest {
    private static final String[] FACE = {
        "int size(int, int)", "int toggle(int, int)", "int undo()", "int cell(int, int)", "int told(int)",
        "int rule(int)", "int change(int, int)", "int becomes(int, boolean)", "int steps(int)", "int block(int, int)",
        "int then(int, int, int)", "int sum(int, int, int, int)", "int kept(int, int, int, int)", "int again()",
        "int moved(int)", "int unlike(int)", "int thing(int, int)", "int thingAt(int, int)", "int shape(int, int)",
        "int feed(int)", "int read()", "int spell()", "int paper(int)", "int list(int, int)", "int set(int, int, long)",
        "long get(int, int)", "int lay(int, int)", "int load(int, int)", "int judge(int, int)", "int see(int, int, int)",
        "int fits()", "int event(int, int)", "int after(int)", "int image()", "int back()", "int count(int)",
    };
    private static final String[] CONSTANTS = {"int NONE", "int BAD", "int STATE", "int FULL", "long NO"};
    private static int wrong = 0;

    public static void main(String[] args) {
        Class<BlockCells> face = BlockCells.class;
        Set<String> names = new TreeSet<>();
        same("methods", Set.of(FACE), methods(face, names));
        same("constants", Set.of(CONSTANTS), fields(face));
        same("constructors", Set.of("()"), constructors(face));
        check(Modifier.isFinal(face.getModifiers()), "the class is final");
        for (Class<?> inside : face.getDeclaredClasses()) inside(inside, names);
        System.out.println(wrong == 0 ? "the face is as told" : wrong + " members are not as told");
        if (wrong != 0) System.exit(1);
    }

    private static void check(boolean isSo, String what) {
        if (isSo) return;
        wrong++;
        System.out.println("not so: " + what);
    }

    private static void same(String what, Set<String> want, Set<String> got) {
        check(want.equals(got), what + " are " + got);
    }

    private static String parameters(Class<?>[] types) {
        StringBuilder text = new StringBuilder();
        for (Class<?> type : types) text.append(text.length() == 0 ? "" : ", ").append(type.getSimpleName());
        return "(" + text + ")";
    }

    /** All but the private ones. */
    private static Set<String> methods(Class<?> face, Set<String> names) {
        Set<String> found = new TreeSet<>();
        for (Method method : face.getDeclaredMethods()) {
            if (method.isSynthetic() || Modifier.isPrivate(method.getModifiers())) continue;
            check(Modifier.isPublic(method.getModifiers()), method + " is public or private");
            found.add(method.getReturnType().getSimpleName() + " " + method.getName() + parameters(method.getParameterTypes()));
            names.add(method.getName());
        }
        for (Method method : face.getDeclaredMethods()) {
            if (!Modifier.isPublic(method.getModifiers())) check(!names.contains(method.getName()), method + " has a name of its own");
        }
        return found;
    }

    private static Set<String> fields(Class<?> face) {
        Set<String> found = new TreeSet<>();
        for (Field field : face.getDeclaredFields()) {
            int kind = field.getModifiers();
            if (Modifier.isStatic(kind)) check(Modifier.isFinal(kind), field + " is final");
            if (field.isSynthetic() || Modifier.isPrivate(kind)) continue;
            check(Modifier.isPublic(kind) && Modifier.isStatic(kind), field + " is a public constant or private");
            found.add(field.getType().getSimpleName() + " " + field.getName());
        }
        return found;
    }

    private static Set<String> constructors(Class<?> face) {
        Set<String> found = new TreeSet<>();
        for (Constructor<?> one : face.getDeclaredConstructors()) {
            check(Modifier.isPublic(one.getModifiers()), one + " is public");
            found.add(parameters(one.getParameterTypes()));
        }
        return found;
    }

    private static void inside(Class<?> inside, Set<String> names) {
        int kind = inside.getModifiers();
        check(Modifier.isStatic(kind) && !Modifier.isPublic(kind) && !Modifier.isProtected(kind), inside + " is static, not public");
        for (Method method : inside.getDeclaredMethods()) check(!names.contains(method.getName()), method + " has a name of its own");
    }
}
