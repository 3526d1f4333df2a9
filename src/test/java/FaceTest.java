import java.lang.reflect.Constructor;
import java.lang.reflect.Field;
import java.lang.reflect.Method;
import java.lang.reflect.Modifier;
import java.util.ArrayList;
import java.util.Arrays;
import java.util.List;
import java.util.TreeSet;

/** The face is that of the document, and no member beside it can be seen from outside. */
public final class FaceTest {
    private static final String[] FACE = {
        "int open(int, int, int, int, int, boolean) IllegalArgumentException IllegalStateException",
        "void charge(int, int) IndexOutOfBoundsException IllegalArgumentException",
        "int advance(int) IllegalArgumentException IllegalStateException",
        "int pay(int, int) IndexOutOfBoundsException IllegalArgumentException",
        "int part(int, int) IndexOutOfBoundsException IllegalArgumentException IllegalStateException",
        "int date()",
        "int due(int, int) IndexOutOfBoundsException IllegalArgumentException",
        "int principal(int) IndexOutOfBoundsException",
        "int level(int) IndexOutOfBoundsException",
        "int accrued(int) IndexOutOfBoundsException",
        "int owed(int, int) IndexOutOfBoundsException IllegalArgumentException",
        "int escrow(int) IndexOutOfBoundsException",
        "int deposit(int) IndexOutOfBoundsException",
        "int bills(int) IndexOutOfBoundsException",
        "int bill(int, int, int) IndexOutOfBoundsException IllegalArgumentException NoSuchElementException",
        "int interest(int, int, int, int, int, int) IllegalArgumentException",
    };

    private static int wrong = 0;

    private static void check(String what, Object got, Object want) {
        if (!got.equals(want)) {
            wrong++;
            System.out.println(what + ": " + got + ", due is " + want);
        }
    }

    private static String described(Method m) {
        List<String> parameters = new ArrayList<>();
        for (Class<?> type : m.getParameterTypes()) {
            parameters.add(type.getSimpleName());
        }
        StringBuilder text = new StringBuilder();
        text.append(m.getReturnType().getSimpleName()).append(' ').append(m.getName());
        text.append('(').append(String.join(", ", parameters)).append(')');
        for (Class<?> type : m.getExceptionTypes()) {
            text.append(' ').append(type.getSimpleName());
        }
        return text.toString();
    }

    private static void checkMethods() {
        TreeSet<String> seen = new TreeSet<>();
        TreeSet<String> publicNames = new TreeSet<>();
        TreeSet<String> privateNames = new TreeSet<>();
        for (Method m : LoanDesk.class.getDeclaredMethods()) {
            if (Modifier.isPrivate(m.getModifiers())) {
                privateNames.add(m.getName());
            } else {
                check(m + " is public", Modifier.isPublic(m.getModifiers()), true);
                check(m + " is static", Modifier.isStatic(m.getModifiers()), false);
                seen.add(described(m));
                publicNames.add(m.getName());
            }
        }
        check("methods", seen, new TreeSet<>(Arrays.asList(FACE)));
        privateNames.retainAll(publicNames);
        check("private methods with the name of a public one", privateNames, new TreeSet<String>());
    }

    private static void checkOthers() {
        int modifiers = LoanDesk.class.getModifiers();
        check("the class is public", Modifier.isPublic(modifiers), true);
        check("the class is final", Modifier.isFinal(modifiers), true);
        Constructor<?>[] constructors = LoanDesk.class.getDeclaredConstructors();
        check("constructors", constructors.length, 1);
        check("the constructor is public", Modifier.isPublic(constructors[0].getModifiers()), true);
        check("parameters of the constructor", constructors[0].getParameterCount(), 0);
        for (Field f : LoanDesk.class.getDeclaredFields()) {
            check(f + " is private", Modifier.isPrivate(f.getModifiers()), true);
        }
        for (Class<?> inside : LoanDesk.class.getDeclaredClasses()) {
            check(inside + " is static", Modifier.isStatic(inside.getModifiers()), true);
            check(inside + " is public", Modifier.isPublic(inside.getModifiers()), false);
        }
    }

    public static void main(String[] args) {
        checkMethods();
        checkOthers();
        System.out.println(wrong == 0 ? "all as due" : wrong + " not as due");
        if (wrong != 0) {
            System.exit(1);
        }
    }
}
