import java.lang.reflect.Constructor;
import java.lang.reflect.Field;
import java.lang.reflect.Method;
import java.lang.reflect.Modifier;
import java.util.Set;
import java.util.TreeSet;

/** The class shows the document's face and nothing else, and holds no static state. */
public final class FaceTest {
    private static final Set<String> METHODS = Set.of(
            "int set(int, int, int, int, int, int)", "int eventA(int, int, int)", "int eventB(int, int, int)",
            "int markA(int)", "int markB(int)", "int mark()", "int available()", "int kind(int)",
            "int field(int, int)", "boolean pop()", "int look(int, int, int)", "int event(int, int, int)",
            "int count(int)");
    private static final Set<String> CONSTANTS = Set.of("NONE -1", "BAD -2", "FULL -3", "LATE -4", "STALE -5");

    public static void main(String[] args) throws Exception {
        boolean fine = same("methods", shownMethods(), METHODS)
                & same("constants", shownConstants(), CONSTANTS)
                & same("constructors", shownConstructors(), Set.of("()"))
                & same("static fields that are not final", looseStatics(), Set.of())
                & same("private methods with a name of the face", shadows(), Set.of());
        if (!Modifier.isFinal(StreamQuery.class.getModifiers()) || !Modifier.isPublic(StreamQuery.class.getModifiers())) {
            System.out.println("the class is not public and final");
            fine = false;
        }
        System.out.println(fine ? "the face is as due" : "the face is not as due");
        if (!fine) {
            System.exit(1);
        }
    }

    private static boolean same(String what, Set<String> got, Set<String> want) {
        if (got.equals(want)) {
            return true;
        }
        System.out.println(what + ": " + got + ", due is " + new TreeSet<>(want));
        return false;
    }

    private static boolean isShown(int modifiers) {
        return !Modifier.isPrivate(modifiers);
    }

    private static String list(Class<?>[] types) {
        StringBuilder text = new StringBuilder("(");
        for (Class<?> type : types) {
            text.append(text.length() == 1 ? "" : ", ").append(type.getName());
        }
        return text.append(")").toString();
    }

    private static Set<String> shownMethods() {
        Set<String> shown = new TreeSet<>();
        for (Method m : StreamQuery.class.getDeclaredMethods()) {
            if (isShown(m.getModifiers())) {
                shown.add((m.getModifiers() == Modifier.PUBLIC ? "" : "wrongly modified ")
                        + m.getReturnType() + " " + m.getName() + list(m.getParameterTypes()));
            }
        }
        return shown;
    }

    private static Set<String> shownConstants() throws IllegalAccessException {
        Set<String> shown = new TreeSet<>();
        for (Field f : StreamQuery.class.getDeclaredFields()) {
            if (isShown(f.getModifiers())) {
                boolean constant = f.getModifiers() == (Modifier.PUBLIC | Modifier.STATIC | Modifier.FINAL);
                shown.add(constant && f.getType() == int.class ? f.getName() + " " + f.getInt(null) : "no constant " + f.getName());
            }
        }
        return shown;
    }

    private static Set<String> shownConstructors() {
        Set<String> shown = new TreeSet<>();
        for (Constructor<?> c : StreamQuery.class.getDeclaredConstructors()) {
            shown.add((Modifier.isPublic(c.getModifiers()) ? "" : "hidden ") + list(c.getParameterTypes()));
        }
        return shown;
    }

    private static Set<String> looseStatics() {
        Set<String> loose = new TreeSet<>();
        addLoose(StreamQuery.class, loose);
        for (Class<?> inside : StreamQuery.class.getDeclaredClasses()) {
            addLoose(inside, loose);
        }
        return loose;
    }

    private static void addLoose(Class<?> type, Set<String> loose) {
        for (Field f : type.getDeclaredFields()) {
            if (Modifier.isStatic(f.getModifiers()) && !Modifier.isFinal(f.getModifiers())) {
                loose.add(type.getName() + "." + f.getName());
            }
        }
    }

    private static Set<String> shadows() {
        Set<String> shadows = new TreeSet<>();
        for (Method m : StreamQuery.class.getDeclaredMethods()) {
            if (!isShown(m.getModifiers())
                    && METHODS.stream().anyMatch(face -> face.contains(" " + m.getName() + "("))) {
                shadows.add(m.getName());
            }
        }
        return shadows;
    }
}
