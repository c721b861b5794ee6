import java.lang.reflect.Constructor;
import java.lang.reflect.Field;
import java.lang.reflect.Method;
import java.lang.reflect.Modifier;
import java.util.ArrayList;
import java.util.Arrays;
import java.util.List;
import java.util.TreeSet;

/**
 * The public face is the document's, with no member more or less; and of LANGUAGE.md what can be seen
 * in the compiled class: rules 1, 2, 5 and 11.
 */
public final class FaceTest {
    private static final String[] FACE = {
        "boolean paint(int,int,boolean) IndexOutOfBoundsException",
        "boolean tie(int,int,boolean) IllegalArgumentException",
        "int again(boolean,int,int,boolean) IllegalArgumentException,IllegalStateException",
        "int clear(boolean) IllegalStateException",
        "int colour(boolean,int,int) IllegalArgumentException",
        "int draft(int,int,int) IllegalArgumentException",
        "int factor(boolean) IllegalStateException",
        "int layer(int) IllegalStateException,IndexOutOfBoundsException",
        "int layers() IllegalStateException",
        "int longest(int,boolean) IndexOutOfBoundsException",
        "int over(int,int) IndexOutOfBoundsException",
        "int period(boolean) IllegalStateException",
        "int run(boolean,int,int) IllegalArgumentException,IllegalStateException",
        "int seen(int,int,boolean) IndexOutOfBoundsException",
        "int weave(int) IllegalArgumentException,IllegalStateException",
        "void picture(int,int) IllegalArgumentException",
        "void unweave(int) IllegalArgumentException",
    };

    public static void main(String[] args) {
        Checks checks = new Checks("FaceTest");
        checks.due("class is public and final",
                ShaftLoom.class.getModifiers(), Modifier.PUBLIC | Modifier.FINAL);
        checks.due("methods", visibleMethods().toString(), new TreeSet<>(Arrays.asList(FACE)).toString());
        checks.due("fields", visibleFields().toString(), "[public static final int NONE]");
        checks.due("constructors", visibleConstructors().toString(), "[public ShaftLoom()]");
        checks.due("NONE", ShaftLoom.NONE, -1);
        checks.due("private methods with a public name", privateNamesakes().toString(), "[]");
        checks.due("classes inside that are open or not static", looseClasses().toString(), "[]");
        checks.due("static fields that are not final", changingStatics().toString(), "[]");
        checks.due("too many classes, fields or parameters", tooMany().toString(), "[]");
        checks.end();
    }

    private static TreeSet<String> visibleMethods() {
        TreeSet<String> found = new TreeSet<>();
        for (Method method : ShaftLoom.class.getDeclaredMethods()) {
            if (!Modifier.isPrivate(method.getModifiers()) && !method.isSynthetic()) {
                found.add(method.getReturnType().getSimpleName() + " " + method.getName() + "("
                        + names(method.getParameterTypes()) + ") " + names(method.getExceptionTypes()));
            }
        }
        return found;
    }

    private static String names(Class<?>[] types) {
        StringBuilder text = new StringBuilder();
        for (Class<?> type : types) {
            text.append(text.length() == 0 ? "" : ",").append(type.getSimpleName());
        }
        return text.toString();
    }

    private static TreeSet<String> visibleFields() {
        TreeSet<String> found = new TreeSet<>();
        for (Field field : ShaftLoom.class.getDeclaredFields()) {
            if (!Modifier.isPrivate(field.getModifiers())) {
                found.add(Modifier.toString(field.getModifiers()) + " "
                        + field.getType().getSimpleName() + " " + field.getName());
            }
        }
        return found;
    }

    private static TreeSet<String> visibleConstructors() {
        TreeSet<String> found = new TreeSet<>();
        for (Constructor<?> constructor : ShaftLoom.class.getDeclaredConstructors()) {
            if (!Modifier.isPrivate(constructor.getModifiers())) {
                found.add(constructor.toString());
            }
        }
        return found;
    }

    private static TreeSet<String> privateNamesakes() {
        TreeSet<String> open = new TreeSet<>();
        for (Method method : ShaftLoom.class.getMethods()) {
            open.add(method.getName());
        }
        TreeSet<String> found = new TreeSet<>();
        addNamesakes(ShaftLoom.class, open, found);
        for (Class<?> inside : ShaftLoom.class.getDeclaredClasses()) {
            addNamesakes(inside, open, found);
        }
        return found;
    }

    private static void addNamesakes(Class<?> type, TreeSet<String> open, TreeSet<String> found) {
        for (Method method : type.getDeclaredMethods()) {
            if (!Modifier.isPublic(method.getModifiers()) && open.contains(method.getName())) {
                found.add(type.getSimpleName() + "." + method.getName());
            }
        }
    }

    private static TreeSet<String> looseClasses() {
        TreeSet<String> found = new TreeSet<>();
        for (Class<?> inside : ShaftLoom.class.getDeclaredClasses()) {
            int modifiers = inside.getModifiers();
            boolean open = Modifier.isPublic(modifiers) || Modifier.isProtected(modifiers);
            if (open || !Modifier.isStatic(modifiers)) {
                found.add(inside.getSimpleName());
            }
        }
        return found;
    }

    private static TreeSet<String> changingStatics() {
        TreeSet<String> found = new TreeSet<>();
        for (Class<?> type : allClasses()) {
            for (Field field : type.getDeclaredFields()) {
                int modifiers = field.getModifiers();
                if (Modifier.isStatic(modifiers) && !Modifier.isFinal(modifiers)) {
                    found.add(type.getSimpleName() + "." + field.getName());
                }
            }
        }
        return found;
    }

    private static TreeSet<String> tooMany() {
        TreeSet<String> found = new TreeSet<>();
        if (allClasses().size() > 12) {
            found.add("classes");
        }
        for (Class<?> type : allClasses()) {
            if (heldBy(type) > 20) {
                found.add("fields of " + type.getSimpleName());
            }
            for (Method method : type.getDeclaredMethods()) {
                if (method.getParameterCount() > 7) {
                    found.add("parameters of " + type.getSimpleName() + "." + method.getName());
                }
            }
        }
        return found;
    }

    private static int heldBy(Class<?> type) {
        int fields = 0;
        for (Field field : type.getDeclaredFields()) {
            if (!Modifier.isStatic(field.getModifiers())) {
                fields++;
            }
        }
        return fields;
    }

    private static List<Class<?>> allClasses() {
        List<Class<?>> all = new ArrayList<>();
        all.add(ShaftLoom.class);
        all.addAll(Arrays.asList(ShaftLoom.class.getDeclaredClasses()));
        return all;
    }
}
