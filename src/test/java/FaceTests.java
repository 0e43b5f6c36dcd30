import java.lang.reflect.Constructor;
import java.lang.reflect.Field;
import java.lang.reflect.Method;
import java.lang.reflect.Modifier;
import java.util.Arrays;
import java.util.HashSet;
import java.util.Set;
import java.util.TreeSet;

/** The face of the class is the document's, and nothing beside it can be seen from outside. */
public final class FaceTests {
    private static final String[] FACE = {
        "int course(int,int,int) IndexOutOfBoundsException UnsupportedOperationException",
        "void need(int,int) IllegalArgumentException IllegalStateException",
        "void pause(int) IndexOutOfBoundsException",
        "void day(int) IndexOutOfBoundsException",
        "void ratio(int,int) IllegalArgumentException IndexOutOfBoundsException",
        "int result(int,int,int) IllegalArgumentException IndexOutOfBoundsException"
                + " IllegalStateException UnsupportedOperationException",
        "int found(int,int) IllegalArgumentException IllegalStateException"
                + " UnsupportedOperationException",
        "void teach(int,int,boolean) IllegalArgumentException IllegalStateException",
        "int use(int,int) IllegalArgumentException IllegalStateException",
        "boolean holds(int,int,int) IllegalArgumentException IndexOutOfBoundsException",
        "int lapse(int,int) IllegalArgumentException",
        "int failed(int,int) IllegalArgumentException",
        "int barred(int,int) IllegalArgumentException",
        "int room(int) IllegalArgumentException",
        "int plan(long,int,int) IllegalArgumentException IndexOutOfBoundsException",
        "int seated(int) IllegalArgumentException",
        "int tomorrow(int,int) IllegalArgumentException IndexOutOfBoundsException",
        "int count(int) IllegalArgumentException",
    };

    public static void main(String[] args) {
        Due due = new Due();
        due.same("public and final", "true", String.valueOf(isPublicFinal()));
        due.same("constructors", "[public TrainingRows()]", constructors());
        due.same("methods", new TreeSet<>(Arrays.asList(FACE)).toString(), methods().toString());
        due.same("methods that take a public name", "[]", repeatedNames().toString());
        due.same("fields that are not private", "[]", openFields().toString());
        due.same("static fields that are not final", "[]", looseStatics().toString());
        due.end();
    }

    private static boolean isPublicFinal() {
        int modifiers = TrainingRows.class.getModifiers();
        return Modifier.isPublic(modifiers) && Modifier.isFinal(modifiers);
    }

    private static String constructors() {
        Constructor<?>[] made = TrainingRows.class.getDeclaredConstructors();
        return Arrays.toString(made);
    }

    private static Set<String> methods() {
        Set<String> found = new TreeSet<>();
        for (Method method : TrainingRows.class.getDeclaredMethods()) {
            if (!Modifier.isPrivate(method.getModifiers())) {
                found.add(textOf(method));
            }
        }
        return found;
    }

    private static String textOf(Method method) {
        StringBuilder text = new StringBuilder();
        text.append(method.getReturnType().getName()).append(' ').append(method.getName());
        String comma = "(";
        for (Class<?> type : method.getParameterTypes()) {
            text.append(comma).append(type.getName());
            comma = ",";
        }
        text.append(')');
        for (Class<?> thrown : method.getExceptionTypes()) {
            text.append(' ').append(thrown.getSimpleName());
        }
        return text.toString();
    }

    private static Set<String> repeatedNames() {
        Set<String> open = new HashSet<>();
        for (Method method : TrainingRows.class.getMethods()) {
            open.add(method.getName());
        }
        Set<String> repeated = new TreeSet<>();
        for (Method method : TrainingRows.class.getDeclaredMethods()) {
            if (Modifier.isPrivate(method.getModifiers()) && open.contains(method.getName())) {
                repeated.add(method.getName());
            }
        }
        return repeated;
    }

    private static Set<String> openFields() {
        Set<String> open = new TreeSet<>();
        for (Field field : TrainingRows.class.getDeclaredFields()) {
            if (!Modifier.isPrivate(field.getModifiers())) {
                open.add(field.getName());
            }
        }
        return open;
    }

    private static Set<String> looseStatics() {
        Set<String> loose = new TreeSet<>();
        for (Class<?> inside : TrainingRows.class.getDeclaredClasses()) {
            addLooseStatics(inside, loose);
        }
        addLooseStatics(TrainingRows.class, loose);
        return loose;
    }

    private static void addLooseStatics(Class<?> owner, Set<String> loose) {
        for (Field field : owner.getDeclaredFields()) {
            int modifiers = field.getModifiers();
            if (Modifier.isStatic(modifiers) && !Modifier.isFinal(modifiers)) {
                loose.add(field.getName());
            }
        }
    }
}
