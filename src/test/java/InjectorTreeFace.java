import java.lang.reflect.Constructor;
import java.lang.reflect.Field;
import java.lang.reflect.Method;
import java.lang.reflect.Modifier;
import java.util.Set;
import java.util.TreeSet;

/** The class shows what "The public face" lists, and keeps rules 1 and 5 of LANGUAGE.md. */
public final class InjectorTreeFace {
    private static final Set<String> FACE = Set.of(
            "public static final int REFUSED = -1",
            "public static final int MISSING = -2",
            "public static final int CIRCULAR = -3",
            "public static final int OUTSIDE = -4",
            "public static final int FULL = -5",
            "public static final long CONSTANT = 10000000000",
            "public static final long HANDLE = 20000000000",
            "public InjectorTree()",
            "public int InjectorTree.child(int)",
            "public int InjectorTree.need(int,boolean)",
            "public int InjectorTree.drop()",
            "public int InjectorTree.bindConstant(int,int,int)",
            "public int InjectorTree.bindLink(int,int,int)",
            "public int InjectorTree.bindClass(int,int,int)",
            "public int InjectorTree.unbind(int,int)",
            "public int InjectorTree.open()",
            "public int InjectorTree.close()",
            "public long InjectorTree.get(int,int)",
            "public long InjectorTree.ask(int,int)",
            "public long InjectorTree.held(int,int)",
            "public int InjectorTree.about(int,int)",
            "public int InjectorTree.broken(int)",
            "public int InjectorTree.reach(int,int)",
            "public int InjectorTree.home(int,int)",
            "public int InjectorTree.count(int)");

    private static int wrong = 0;

    private static void due(boolean holds, String what) {
        if (!holds) {
            wrong++;
            System.out.println(what);
        }
    }

    public static void main(String[] args) throws IllegalAccessException {
        Class<?> face = InjectorTree.class;
        due(Modifier.isPublic(face.getModifiers()), "the class is not public");
        due(Modifier.isFinal(face.getModifiers()), "the class is not final");
        due(face.getPackageName().isEmpty(), "the class is in a package");
        Set<String> shown = shownMembers(face);
        for (String member : FACE) {
            due(shown.contains(member), "not in the class: " + member);
        }
        for (String member : shown) {
            due(FACE.contains(member), "not in the document: " + member);
        }
        privateMethodsHaveNamesOfTheirOwn(face);
        nestedClassesAreStatic(face);
        staticFieldsAreFinal(face);
        if (wrong != 0) {
            System.exit(1);
        }
    }

    private static Set<String> shownMembers(Class<?> face) throws IllegalAccessException {
        Set<String> shown = new TreeSet<>();
        for (Field field : face.getDeclaredFields()) {
            if (!Modifier.isPrivate(field.getModifiers()) && !field.isSynthetic()) {
                Object value = Modifier.isStatic(field.getModifiers()) ? field.get(null) : null;
                shown.add(Modifier.toString(field.getModifiers()) + " " + field.getType()
                        + " " + field.getName() + " = " + value);
            }
        }
        for (Constructor<?> constructor : face.getDeclaredConstructors()) {
            if (!Modifier.isPrivate(constructor.getModifiers()) && !constructor.isSynthetic()) {
                shown.add(constructor.toString());
            }
        }
        for (Method method : face.getDeclaredMethods()) {
            if (!Modifier.isPrivate(method.getModifiers()) && !method.isSynthetic()) {
                shown.add(method.toString());
            }
        }
        return shown;
    }

    private static void privateMethodsHaveNamesOfTheirOwn(Class<?> face) {
        Set<String> names = new TreeSet<>();
        for (Method method : face.getDeclaredMethods()) {
            if (Modifier.isPublic(method.getModifiers())) {
                names.add(method.getName());
            }
        }
        for (Method method : face.getDeclaredMethods()) {
            due(Modifier.isPublic(method.getModifiers()) || !names.contains(method.getName()),
                    "a private method bears a public one's name: " + method);
        }
    }

    private static void nestedClassesAreStatic(Class<?> face) {
        for (Class<?> nested : face.getDeclaredClasses()) {
            due(Modifier.isStatic(nested.getModifiers()), "not static: " + nested);
            due(!Modifier.isPublic(nested.getModifiers())
                    && !Modifier.isProtected(nested.getModifiers()), "shown: " + nested);
            staticFieldsAreFinal(nested);
        }
    }

    private static void staticFieldsAreFinal(Class<?> owner) {
        for (Field field : owner.getDeclaredFields()) {
            int modifiers = field.getModifiers();
            due(!Modifier.isStatic(modifiers) || Modifier.isFinal(modifiers),
                    "static and not final: " + field);
        }
    }
}
