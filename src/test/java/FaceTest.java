import java.lang.reflect.Constructor;
import java.lang.reflect.Field;
import java.lang.reflect.Method;
import java.lang.reflect.Modifier;
import java.util.Arrays;
import java.util.Set;
import java.util.TreeSet;

/** The public face, and rule 1 of LANGUAGE.md: nothing else can be seen. */
public final class FaceTest {
    private static final Set<String> FACE = Set.of(
            "int feed(int, int, int, int, int) IndexOutOfBoundsException",
            "int end(int) IllegalArgumentException",
            "int put(int, int, int) IllegalArgumentException IllegalStateException",
            "int find(int) IllegalArgumentException NoSuchElementException",
            "int seek(int, boolean) IllegalArgumentException NoSuchElementException",
            "int next() NoSuchElementException",
            "int first() NoSuchElementException",
            "int current(int) IllegalArgumentException NoSuchElementException",
            "long word(int) NoSuchElementException IndexOutOfBoundsException",
            "int clear()",
            "int count()");

    public static void main(String[] args) {
        Set<String> seen = new TreeSet<>();
        for (Method method : MomentTree.class.getDeclaredMethods()) {
            if (Modifier.isPrivate(method.getModifiers())) {
                Check.due(method.getName() + " is no name of the face",
                        FACE.stream().anyMatch(face -> face.contains(" " + method.getName() + "(")) ? 1 : 0, 0);
            } else {
                Check.due(method.getName() + " is public", method.getModifiers(), Modifier.PUBLIC);
                seen.add(described(method));
            }
        }
        Check.due("the face's methods: " + seen, seen.equals(FACE) ? 1 : 0, 1);
        for (Field field : MomentTree.class.getDeclaredFields()) {
            Check.due(field.getName() + " is private", Modifier.isPrivate(field.getModifiers()) ? 1 : 0, 1);
        }
        Constructor<?>[] constructors = MomentTree.class.getDeclaredConstructors();
        Check.due("constructors", constructors.length, 1);
        Check.due("its parameters", constructors[0].getParameterCount(), 0);
        Check.due("it is public", constructors[0].getModifiers(), Modifier.PUBLIC);
        Check.due("the class", MomentTree.class.getModifiers(), Modifier.PUBLIC | Modifier.FINAL);
        Check.finish();
    }

    private static String described(Method method) {
        StringBuilder text = new StringBuilder();
        text.append(method.getReturnType().getSimpleName()).append(' ').append(method.getName());
        String parameters = Arrays.toString(Arrays.stream(method.getParameterTypes())
                .map(Class::getSimpleName).toArray());
        text.append('(').append(parameters, 1, parameters.length() - 1).append(')');
        for (Class<?> thrown : method.getExceptionTypes()) {
            text.append(' ').append(thrown.getSimpleName());
        }
        return text.toString();
    }
}
