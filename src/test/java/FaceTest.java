import java.lang.reflect.Constructor;
import java.lang.reflect.Field;
import java.lang.reflect.Method;
import java.lang.reflect.Modifier;
import java.util.Set;
import java.util.TreeSet;

/** The class has the document's face, and nothing else that can be seen. */
public final class FaceTest {
    private static final String[] METHODS = {
        "int pages() throws IllegalStateException",
        "int add() throws IllegalStateException",
        "int get(int,int) throws IllegalStateException,IndexOutOfBoundsException",
        "int put(int,int,int) throws IllegalStateException,IndexOutOfBoundsException",
        "void move(int,int,int,int,int) throws IllegalStateException,IndexOutOfBoundsException",
        "long sum(int) throws IllegalStateException,IndexOutOfBoundsException",
        "void begin() throws IllegalStateException",
        "void commit() throws IllegalStateException,ArithmeticException",
        "void rollback() throws IllegalStateException",
        "int mark() throws IllegalStateException",
        "void back(int) throws IllegalStateException,IndexOutOfBoundsException",
        "void keep(int) throws IllegalStateException,IndexOutOfBoundsException",
        "void power(int,int,int) throws IllegalArgumentException",
        "int reopen() throws ArithmeticException",
        "int told(int) throws IllegalArgumentException",
    };

    public static void main(String[] args) {
        Check check = new Check();
        check.same("the class", Modifier.toString(PageStore.class.getModifiers()), "public final");
        check.same("its constructors", constructors(), "[public PageStore()]");
        check.same("its methods", methods().toString(), new TreeSet<>(Set.of(METHODS)).toString());
        check.same("its constants", constants().toString(), "[public static final int MOST, public static final int PAGE]");
        check.same("private methods with a public one's name", hiddenNames().toString(), "[]");
        check.same("classes inside that are seen or need an object", innerClasses().toString(), "[]");
        check.is("PAGE", PageStore.PAGE, 256);
        check.is("MOST", PageStore.MOST, 768);
        check.end();
    }

    private static String constructors() {
        Set<String> seen = new TreeSet<>();
        for (Constructor<?> c : PageStore.class.getDeclaredConstructors()) {
            seen.add(c.toString());
        }
        return seen.toString();
    }

    private static Set<String> methods() {
        Set<String> seen = new TreeSet<>();
        for (Method m : PageStore.class.getDeclaredMethods()) {
            if (!Modifier.isPrivate(m.getModifiers())) {
                String heading = m.toString().replace("java.lang.", "").replace("PageStore.", "");
                seen.add(heading.replaceFirst("^public ", ""));
            }
        }
        return seen;
    }

    private static Set<String> constants() {
        Set<String> seen = new TreeSet<>();
        for (Field f : PageStore.class.getDeclaredFields()) {
            if (!Modifier.isPrivate(f.getModifiers())) {
                seen.add(f.toString().replace("PageStore.", ""));
            }
        }
        return seen;
    }

    private static Set<String> hiddenNames() {
        Set<String> seen = new TreeSet<>();
        Set<String> shown = new TreeSet<>();
        for (Method m : PageStore.class.getDeclaredMethods()) {
            (Modifier.isPrivate(m.getModifiers()) ? seen : shown).add(m.getName());
        }
        seen.retainAll(shown);
        return seen;
    }

    private static Set<String> innerClasses() {
        Set<String> seen = new TreeSet<>();
        for (Class<?> c : PageStore.class.getDeclaredClasses()) {
            int is = c.getModifiers();
            if (Modifier.isPublic(is) || Modifier.isProtected(is) || !Modifier.isStatic(is)) {
                seen.add(c.getSimpleName());
            }
        }
        return seen;
    }
}
