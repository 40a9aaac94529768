import java.lang.reflect.Constructor;
import java.lang.reflect.Field;
import java.lang.reflect.Member;
import java.lang.reflect.Method;
import java.lang.reflect.Modifier;
import java.util.ArrayList;
import java.util.Arrays;
import java.util.Collections;
import java.util.List;
import java.util.TreeSet;
import java.util.stream.Collectors;

/** The class has just the face that the document shows (and rule 1 of LANGUAGE.md asks for). */
public final class FaceTest {
    private static final String[] FACE = {
        "int feed(int, int, int, int, int)", "boolean end(int)",
        "void field(int) IllegalArgumentException IllegalStateException",
        "int form() IllegalArgumentException UnsupportedOperationException",
        "int table(int, int, int, int) IllegalArgumentException UnsupportedOperationException",
        "int signs() IllegalArgumentException UnsupportedOperationException",
        "int fault()",
        "int look(int, int) IndexOutOfBoundsException",
        "int at(int, int, int) IndexOutOfBoundsException",
        "int det(int) IndexOutOfBoundsException",
        "boolean mix(int, int) IndexOutOfBoundsException",
        "int undo()", "int redo()",
        "int value(int, int, int) IndexOutOfBoundsException",
        "int rank(int, boolean) IndexOutOfBoundsException",
        "boolean stays(int, int, int) IndexOutOfBoundsException",
        "int agree(int, int, int) IndexOutOfBoundsException IllegalArgumentException",
        "long count(int, int, int) IllegalArgumentException",
        "int span(int, int, int) IllegalArgumentException",
        "int basis(int, int, int) IllegalArgumentException",
        "int kind(int) IndexOutOfBoundsException",
        "int orbit(int) IndexOutOfBoundsException",
        "int join(int, int) IndexOutOfBoundsException UnsupportedOperationException",
        "int turn(int) IndexOutOfBoundsException UnsupportedOperationException",
        "int told(int, int) IndexOutOfBoundsException",
        "int quotient(int, int, int) IndexOutOfBoundsException",
        "boolean plain(int) IndexOutOfBoundsException",
        "int root(int, int) IndexOutOfBoundsException IllegalArgumentException",
        "int roots(int) IndexOutOfBoundsException",
        "boolean empty(int) IndexOutOfBoundsException",
        "int same(int, int) IndexOutOfBoundsException",
        "int keep(int) IndexOutOfBoundsException",
        "int powers(int, int) IndexOutOfBoundsException IllegalArgumentException",
        "int common(int, int, int) IndexOutOfBoundsException",
        "int overlap(int, int, int, int) IndexOutOfBoundsException IllegalArgumentException",
        "long reduced(int, int, int, int) IllegalArgumentException NoSuchElementException",
        "int classes(int, boolean) IllegalArgumentException",
        "int reducedAt(int, int, int) IllegalArgumentException NoSuchElementException",
        "int real(int, int, int, int, int) IllegalArgumentException",
        "void image()", "boolean back()", "int stock(int)"};

    public static void main(String[] args) {
        Check.due("NONE", -1, () -> LetterForms.NONE);
        Check.due("public and final", true,
            () -> Modifier.isPublic(LetterForms.class.getModifiers()) && Modifier.isFinal(LetterForms.class.getModifiers()));
        List<String> due = new ArrayList<>(Arrays.asList(FACE));
        Collections.sort(due);
        Check.due("methods", due, FaceTest::methods);
        Check.due("constructors", "[public LetterForms()]",
            () -> Arrays.asList(LetterForms.class.getDeclaredConstructors()).toString());
        Check.due("fields", "[NONE]", FaceTest::fields);
        Check.due("private methods with a public one's name", "[]", FaceTest::twice);
        Check.due("classes inside", true, FaceTest::inside);
        Check.due("fields of a class", true, FaceTest::isFew);
        Check.due("what is static is final, and a number", "[]", FaceTest::loose);
        Check.end("FaceTest");
    }

    private static boolean isOpen(Member member) {
        return !Modifier.isPrivate(member.getModifiers());
    }

    private static List<String> methods() {
        List<String> all = new ArrayList<>();
        for (Method m : LetterForms.class.getDeclaredMethods()) {
            if (isOpen(m)) {
                String of = Arrays.stream(m.getParameterTypes()).map(Class::getName).collect(Collectors.joining(", "));
                String thrown = Arrays.stream(m.getExceptionTypes()).map(c -> " " + c.getSimpleName()).collect(Collectors.joining());
                all.add(m.getReturnType() + " " + m.getName() + "(" + of + ")" + thrown);
            }
        }
        Collections.sort(all);
        return all;
    }

    private static String fields() {
        List<String> all = new ArrayList<>();
        for (Field f : LetterForms.class.getDeclaredFields()) {
            boolean isConstant = Modifier.isStatic(f.getModifiers()) && Modifier.isFinal(f.getModifiers());
            if (isOpen(f) || Modifier.isStatic(f.getModifiers()) && !isConstant) {
                all.add(f.getName());
            }
        }
        return all.toString();
    }

    private static String twice() {
        TreeSet<String> open = new TreeSet<>();
        TreeSet<String> hidden = new TreeSet<>();
        for (Method m : LetterForms.class.getDeclaredMethods()) {
            (isOpen(m) ? open : hidden).add(m.getName());
        }
        for (Class<?> c : LetterForms.class.getDeclaredClasses()) {
            for (Method m : c.getDeclaredMethods()) {
                if (!isOpen(m)) {
                    hidden.add(m.getName());
                }
            }
        }
        hidden.retainAll(open);
        return hidden.toString();
    }

    private static boolean inside() {
        int many = 1;
        for (Class<?> c : LetterForms.class.getDeclaredClasses()) {
            many++;
            if (!Modifier.isStatic(c.getModifiers()) || Modifier.isPublic(c.getModifiers()) || Modifier.isProtected(c.getModifiers())) {
                return false;
            }
            for (Constructor<?> made : c.getDeclaredConstructors()) {
                if (made.getParameterCount() > 7) {
                    return false;
                }
            }
        }
        return many <= 12;
    }

    private static String loose() {
        List<Class<?>> all = new ArrayList<>(Arrays.asList(LetterForms.class.getDeclaredClasses()));
        all.add(LetterForms.class);
        List<String> names = new ArrayList<>();
        for (Class<?> c : all) {
            for (Field f : c.getDeclaredFields()) {
                boolean isConstant = Modifier.isFinal(f.getModifiers()) && f.getType() == int.class;
                if (Modifier.isStatic(f.getModifiers()) && !isConstant) {
                    names.add(f.getName());
                }
            }
        }
        return names.toString();
    }

    private static boolean isFew() {
        List<Class<?>> all = new ArrayList<>(Arrays.asList(LetterForms.class.getDeclaredClasses()));
        all.add(LetterForms.class);
        for (Class<?> c : all) {
            int many = 0;
            for (Field f : c.getDeclaredFields()) {
                many += Modifier.isStatic(f.getModifiers()) ? 0 : 1;
            }
            if (many > 20) {
                return false;
            }
        }
        return true;
    }
}
