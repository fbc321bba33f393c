import java.lang.reflect.Constructor;
import java.lang.reflect.Field;
import java.lang.reflect.Method;
import java.lang.reflect.Modifier;
import java.util.ArrayList;
import java.util.Arrays;
import java.util.List;
import java.util.Set;
import java.util.TreeSet;

/** The class has the document's face and no more, as rule 1 of LANGUAGE.md asks. */
public final class SpillikinTableFace {
    private static final String A = " throws IllegalArgumentException";
    private static final String I = " throws IndexOutOfBoundsException";
    private static final String N = " throws NoSuchElementException";
    private static final List<String> DUE = List.of(
            "int box(int)" + A + ", IllegalStateException",
            "int row(int, int, int)" + I,
            "int put(int, int, int, long)" + I,
            "int copy(int, int, int, int, int, int, int)" + I,
            "int tear(int, int)" + I,
            "int lay(int, int, int, int, int)" + I + ", IllegalArgumentException",
            "int move(int, int, int, int)" + N,
            "int away(int)" + N,
            "boolean lift(int)" + N,
            "void turn(int, int, int)" + A,
            "int undo()",
            "int told(int, int)" + N + ", IllegalArgumentException",
            "int count(int)",
            "int after(int)",
            "boolean bars(int, int)" + N,
            "int crossings(int)" + N,
            "int crossing(int, int, int)" + N,
            "int print(int, int, int)" + N,
            "boolean free(int)" + N,
            "int order(int)",
            "int knots()",
            "int knot(int, int, int)",
            "int fewest()",
            "int few(int)",
            "int layer(int)" + N,
            "int push(int)",
            "int check(int)" + A,
            "int octet(int)");

    private static String names(Class<?>[] types) {
        List<String> names = new ArrayList<>();
        for (Class<?> type : types) {
            names.add(type.getSimpleName());
        }
        return String.join(", ", names);
    }

    private static String face(Method method) {
        String thrown = names(method.getExceptionTypes());
        return method.getReturnType().getSimpleName() + " " + method.getName() + "("
                + names(method.getParameterTypes()) + ")" + (thrown.isEmpty() ? "" : " throws " + thrown);
    }

    private static boolean isClosed(int modifiers) {
        return Modifier.isPrivate(modifiers);
    }

    private static List<String> faults() {
        List<String> faults = new ArrayList<>();
        Class<?> table = SpillikinTable.class;
        Set<String> open = new TreeSet<>();
        Set<String> names = new TreeSet<>();
        for (Method method : table.getDeclaredMethods()) {
            if (!isClosed(method.getModifiers())) {
                open.add((Modifier.isPublic(method.getModifiers()) ? "" : "not public: ") + face(method));
                names.add(method.getName());
            }
        }
        if (!open.equals(new TreeSet<>(DUE))) {
            faults.add("the methods are " + open);
        }
        for (Field field : table.getDeclaredFields()) {
            if (!isClosed(field.getModifiers()) && !field.getName().equals("NONE")) {
                faults.add("field " + field);
            }
        }
        Constructor<?>[] made = table.getDeclaredConstructors();
        if (made.length != 1 || made[0].getParameterCount() != 0 || !Modifier.isPublic(made[0].getModifiers())) {
            faults.add("the constructors are " + Arrays.toString(made));
        }
        if (table.getModifiers() != (Modifier.PUBLIC | Modifier.FINAL)) {
            faults.add("the class is " + Modifier.toString(table.getModifiers()));
        }
        List<Class<?>> classes = new ArrayList<>(Arrays.asList(table.getDeclaredClasses()));
        for (Class<?> inside : classes) {
            if (!Modifier.isStatic(inside.getModifiers()) || Modifier.isPublic(inside.getModifiers())) {
                faults.add("class " + inside);
            }
        }
        classes.add(table);
        for (Class<?> some : classes) {
            for (Method method : some.getDeclaredMethods()) {
                if (!Modifier.isPublic(method.getModifiers()) && names.contains(method.getName())) {
                    faults.add("the name of a public one: " + method);
                }
            }
            for (Field field : some.getDeclaredFields()) {
                if (Modifier.isStatic(field.getModifiers()) && !Modifier.isFinal(field.getModifiers())) {
                    faults.add("static and not final: " + field);
                }
            }
        }
        return faults;
    }

    public static void main(String[] args) {
        List<String> faults = faults();
        for (String fault : faults) {
            System.out.println(fault);
        }
        System.out.println(faults.isEmpty() ? "the face is as due" : faults.size() + " faults of the face");
        if (!faults.isEmpty()) {
            System.exit(1);
        }
    }
}
