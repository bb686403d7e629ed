import java.lang.reflect.Constructor;
import java.lang.reflect.Member;
import java.lang.reflect.Method;
import java.lang.reflect.Modifier;
import java.util.ArrayList;
import java.util.Arrays;
import java.util.List;
import java.util.TreeSet;

/** The class has the document's face and no other member that can be seen. */
public final class FaceTest {
    private static final List<String> FACE = List.of(
        "int precision(int, int) throws IllegalArgumentException",
        "int range(int, int, boolean) throws IllegalArgumentException",
        "int flags(boolean)",
        "int number(int, long, int, int) throws IllegalArgumentException",
        "int copy(int, int, int, int) throws IllegalArgumentException",
        "int reckon(int, int, int, int, int) throws IllegalArgumentException",
        "int fused(int, int, int, int, int) throws IllegalArgumentException",
        "int root(int, int, int, int) throws IllegalArgumentException",
        "int power(int, int, int, int) throws IllegalArgumentException",
        "int whole(int, int, int, int) throws IllegalArgumentException",
        "int sum(int, int, int, int) throws IllegalArgumentException",
        "int dot(int, int, int, int, int) throws IllegalArgumentException",
        "int neighbour(int, boolean) throws IllegalArgumentException",
        "int compare(int, int) throws IllegalArgumentException, UnsupportedOperationException",
        "int look(int, int) throws IllegalArgumentException, NoSuchElementException",
        "long word(int, int) throws IllegalArgumentException, NoSuchElementException",
        "int fromDouble(int, long, int) throws IllegalArgumentException",
        "long toDouble(int, int) throws IllegalArgumentException",
        "long toLong(int, int) throws IllegalArgumentException, UnsupportedOperationException",
        "void feed(int, int, int, int, int) throws IllegalStateException",
        "int end(int) throws IllegalArgumentException",
        "int read(int, int, int) throws IllegalArgumentException, UnsupportedOperationException",
        "int write(int, int, int, int) throws IllegalArgumentException, NoSuchElementException",
        "int octet(int) throws NoSuchElementException");

    public static void main(String[] args) {
        List<String> wrong = new ArrayList<>();
        Class<?> type = TrueFloats.class;
        if (!Modifier.isPublic(type.getModifiers()) || !Modifier.isFinal(type.getModifiers())) {
            wrong.add("the class is not public and final");
        }
        TreeSet<String> seen = new TreeSet<>();
        TreeSet<String> names = new TreeSet<>();
        for (Method method : type.getDeclaredMethods()) {
            if (isSeen(method)) {
                seen.add(describe(method));
                names.add(method.getName());
            }
        }
        if (!seen.equals(new TreeSet<>(FACE))) {
            wrong.add("the methods that are seen are " + seen);
        }
        for (Constructor<?> constructor : type.getDeclaredConstructors()) {
            if (!Modifier.isPublic(constructor.getModifiers()) || constructor.getParameterCount() != 0) {
                wrong.add("there is " + constructor);
            }
        }
        for (Member field : type.getDeclaredFields()) {
            if (!Modifier.isPrivate(field.getModifiers())) {
                wrong.add("the field " + field.getName() + " is not private");
            }
        }
        lookInside(type, names, wrong);
        wrong.forEach(System.out::println);
        System.out.println("face: " + (wrong.isEmpty() ? "as the document says" : wrong.size() + " faults"));
        if (!wrong.isEmpty()) {
            System.exit(1);
        }
    }

    private static void lookInside(Class<?> type, TreeSet<String> names, List<String> wrong) {
        for (Class<?> inner : type.getDeclaredClasses()) {
            if (!Modifier.isStatic(inner.getModifiers()) || Modifier.isPublic(inner.getModifiers())) {
                wrong.add(inner + " is public or not static");
            }
            for (Method method : inner.getDeclaredMethods()) {
                if (names.contains(method.getName())) {
                    wrong.add(inner + " has a method with a public one's name: " + method.getName());
                }
            }
        }
        for (Method method : type.getDeclaredMethods()) {
            if (!isSeen(method) && names.contains(method.getName())) {
                wrong.add("a private method has a public one's name: " + method.getName());
            }
        }
    }

    private static boolean isSeen(Member member) {
        return !Modifier.isPrivate(member.getModifiers());
    }

    private static String describe(Method method) {
        String parameters = Arrays.toString(method.getParameterTypes());
        String public_ = Modifier.isPublic(method.getModifiers()) ? "" : "hidden ";
        return public_ + method.getReturnType() + " " + method.getName() + "("
            + parameters.substring(1, parameters.length() - 1) + ")" + thrown(method);
    }

    private static String thrown(Method method) {
        List<String> names = new ArrayList<>();
        for (Class<?> type : method.getExceptionTypes()) {
            names.add(type.getSimpleName());
        }
        return names.isEmpty() ? "" : " throws " + String.join(", ", names);
    }
}
