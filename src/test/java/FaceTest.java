import java.lang.reflect.Constructor;
import java.lang.reflect.Field;
import java.lang.reflect.Method;
import java.lang.reflect.Modifier;
import java.util.Arrays;
import java.util.TreeSet;

/** The public face is the document's, with no member more or less. */
public final class FaceTest {
    private static final String[] FACE = {
        "boolean paint(int,int,boolean) IndexOutOfBoundsException",
        "boolean tie(int,int,boolean) IllegalArgumentException",
        "int again(boolean,int,int,boolean) IllegalArgumentException,IllegalStateException",
        "int clear(boolean) IllegalStateException",
        "int colour(boolean,int,int) IllegalArgumentException",
        "int draft(int,int,int) IllegalArgumentException",
        "int factor(boolean) IllegalStateException",
        "int layer(int) IllegalStateException,IndexOutOfBoundsException",
        "int layers() IllegalStateException",
        "int longest(int,boolean) IndexOutOfBoundsException",
        "int over(int,int) IndexOutOfBoundsException",
        "int period(boolean) IllegalStateException",
        "int run(boolean,int,int) IllegalArgumentException,IllegalStateException",
        "int seen(int,int,boolean) IndexOutOfBoundsException",
        "int weave(int) IllegalArgumentException,IllegalStateException",
        "void picture(int,int) IllegalArgumentException",
        "void unweave(int) IllegalArgumentException",
    };

    public static void main(String[] args) {
        Checks checks = new Checks("FaceTest");
        checks.due("class is public and final",
                ShaftLoom.class.getModifiers(), Modifier.PUBLIC | Modifier.FINAL);
        checks.due("methods", visibleMethods().toString(), new TreeSet<>(Arrays.asList(FACE)).toString());
        checks.due("fields", visibleFields().toString(), "[public static final int NONE]");
        checks.due("constructors", visibleConstructors().toString(), "[public ShaftLoom()]");
        checks.due("NONE", ShaftLoom.NONE, -1);
        checks.due("private methods with a public name", privateNamesakes().toString(), "[]");
        checks.end();
    }

    private static TreeSet<String> visibleMethods() {
        TreeSet<String> found = new TreeSet<>();
        for (Method method : ShaftLoom.class.getDeclaredMethods()) {
            if (!Modifier.isPrivate(method.getModifiers()) && !method.isSynthetic()) {
                found.add(method.getReturnType().getSimpleName() + " " + method.getName() + "("
                        + names(method.getParameterTypes()) + ") " + names(method.getExceptionTypes()));
            }
        }
        return found;
    }

    private static String names(Class<?>[] types) {
        StringBuilder text = new StringBuilder();
        for (Class<?> type : types) {
            text.append(text.length() == 0 ? "" : ",").append(type.getSimpleName());
        }
        return text.toString();
    }

    private static TreeSet<String> visibleFields() {
        TreeSet<String> found = new TreeSet<>();
        for (Field field : ShaftLoom.class.getDeclaredFields()) {
            if (!Modifier.isPrivate(field.getModifiers())) {
                found.add(Modifier.toString(field.getModifiers()) + " "
                        + field.getType().getSimpleName() + " " + field.getName());
            }
        }
        return found;
    }

    private static TreeSet<String> visibleConstructors() {
        TreeSet<String> found = new TreeSet<>();
        for (Constructor<?> constructor : ShaftLoom.class.getDeclaredConstructors()) {
            if (!Modifier.isPrivate(constructor.getModifiers())) {
                found.add(constructor.toString());
            }
        }
        return found;
    }

    private static TreeSet<String> privateNamesakes() {
        TreeSet<String> open = new TreeSet<>();
        for (Method method : ShaftLoom.class.getMethods()) {
            open.add(method.getName());
        }
        TreeSet<String> found = new TreeSet<>();
        addNamesakes(ShaftLoom.class, open, found);
        for (Class<?> inside : ShaftLoom.class.getDeclaredClasses()) {
            addNamesakes(inside, open, found);
        }
        return found;
    }

    private static void addNamesakes(Class<?> type, TreeSet<String> open, TreeSet<String> found) {
        for (Method method : type.getDeclaredMethods()) {
            if (!Modifier.isPublic(method.getModifiers()) && open.contains(method.getName())) {
                found.add(type.getSimpleName() + "." + method.getName());
            }
        }
    }
}
