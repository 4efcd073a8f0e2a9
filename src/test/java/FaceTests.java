import java.lang.reflect.Constructor;
import java.lang.reflect.Field;
import java.lang.reflect.Method;
import java.lang.reflect.Modifier;
import java.util.Arrays;
import java.util.Set;
import java.util.TreeSet;

/** The public face is that of the document, and nothing else can be seen from outside. */
public final class FaceTests {
    private static final String[] METHODS = {
        "int append(int,int,int,int,int)",
        "int parse(int) IllegalArgumentException",
        "int size(int) IllegalArgumentException",
        "int kind(int) IndexOutOfBoundsException",
        "boolean mayTake(int,int,int) IndexOutOfBoundsException IllegalArgumentException",
        "int amounts(int,int) IndexOutOfBoundsException IllegalArgumentException",
        "int value(int,int) IndexOutOfBoundsException IllegalArgumentException",
        "int heapWith(int,int,int) IndexOutOfBoundsException",
        "int greatest(int,int) IndexOutOfBoundsException IllegalArgumentException",
        "double zeros(int,int) IndexOutOfBoundsException IllegalArgumentException",
        "int period(int,int) IndexOutOfBoundsException IllegalArgumentException",
        "int start(int,int) IndexOutOfBoundsException IllegalArgumentException",
        "boolean isProved(int,int) IndexOutOfBoundsException IllegalArgumentException",
        "int heap(int,int) IndexOutOfBoundsException IllegalArgumentException",
        "int nimSum()",
        "int positionValue()",
        "boolean isWon()",
        "int length()",
        "int moves()",
        "int move(int,int) IndexOutOfBoundsException IllegalArgumentException",
        "int winning()",
        "int best()",
        "int lostWith(int) IndexOutOfBoundsException",
        "int lostBelow()",
        "int played(int,int) IndexOutOfBoundsException IllegalArgumentException",
        "int take(int,int) IndexOutOfBoundsException IllegalArgumentException",
        "int takeBoth(int,int,int) IndexOutOfBoundsException IllegalArgumentException",
        "int pass() IllegalStateException",
        "int play() IllegalStateException",
        "int setSize(int,int) IndexOutOfBoundsException IllegalArgumentException",
        "int setPasses(int) IllegalArgumentException",
        "boolean setMisere(boolean)",
        "int addHeap(int,int) IndexOutOfBoundsException IllegalArgumentException IllegalStateException",
        "int removeHeap(int) IndexOutOfBoundsException",
        "int undo()",
        "boolean saveSnapshot(int) IllegalArgumentException",
        "int restoreSnapshot(int) IllegalArgumentException IllegalStateException",
        "long checksum()",
    };

    private FaceTests() {
    }

    public static void main(String[] args) {
        Check check = new Check();
        check.due("the visible methods", new TreeSet<>(Arrays.asList(METHODS)), () -> visibleMethods());
        check.due("private methods with public names", new TreeSet<String>(), () -> sharedNames());
        check.due("the visible fields", "[public static final int NONE]", () -> visibleFields());
        check.due("NONE", -1, () -> HeapGames.NONE);
        check.due("the constructors", "[public HeapGames()]",
                () -> Arrays.toString(HeapGames.class.getDeclaredConstructors()));
        check.due("the class is public and final", Modifier.PUBLIC | Modifier.FINAL,
                () -> HeapGames.class.getModifiers());
        check.due("its superclass", Object.class, () -> HeapGames.class.getSuperclass());
        check.due("inner classes that can be seen", 0, () -> visibleClasses());
        check.end();
    }

    private static Set<String> visibleMethods() {
        Set<String> found = new TreeSet<>();
        for (Method method : HeapGames.class.getDeclaredMethods()) {
            if (!Modifier.isPrivate(method.getModifiers())) {
                found.add(textOf(method));
            }
        }
        return found;
    }

    private static String textOf(Method method) {
        StringBuilder text = new StringBuilder();
        text.append(method.getReturnType().getName()).append(' ').append(method.getName()).append('(');
        String comma = "";
        for (Class<?> type : method.getParameterTypes()) {
            text.append(comma).append(type.getName());
            comma = ",";
        }
        text.append(')');
        for (Class<?> type : method.getExceptionTypes()) {
            text.append(' ').append(type.getSimpleName());
        }
        return text.toString();
    }

    private static Set<String> sharedNames() {
        Set<String> names = new TreeSet<>();
        for (String method : METHODS) {
            names.add(method.substring(method.indexOf(' ') + 1, method.indexOf('(')));
        }
        Set<String> found = new TreeSet<>();
        collectShared(HeapGames.class, names, found);
        for (Class<?> inner : HeapGames.class.getDeclaredClasses()) {
            collectShared(inner, names, found);
        }
        return found;
    }

    private static void collectShared(Class<?> type, Set<String> names, Set<String> found) {
        for (Method method : type.getDeclaredMethods()) {
            boolean isOfTheFace = type == HeapGames.class && Modifier.isPublic(method.getModifiers());
            if (!isOfTheFace && names.contains(method.getName())) {
                found.add(type.getName() + "." + method.getName());
            }
        }
    }

    private static Set<String> visibleFields() {
        Set<String> found = new TreeSet<>();
        for (Field field : HeapGames.class.getDeclaredFields()) {
            if (!Modifier.isPrivate(field.getModifiers())) {
                found.add(Modifier.toString(field.getModifiers()) + " " + field.getType() + " " + field.getName());
            }
        }
        return found;
    }

    private static int visibleClasses() {
        int count = 0;
        for (Class<?> inner : HeapGames.class.getDeclaredClasses()) {
            if (!Modifier.isPrivate(inner.getModifiers()) || !Modifier.isStatic(inner.getModifiers())) {
                count++;
            }
            for (Constructor<?> constructor : inner.getDeclaredConstructors()) {
                count += Modifier.isPublic(constructor.getModifiers()) ? 1 : 0;
            }
        }
        return count;
    }
}
