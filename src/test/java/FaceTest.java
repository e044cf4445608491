import java.lang.reflect.Constructor;
import java.lang.reflect.Field;
import java.lang.reflect.Method;
import java.lang.reflect.Modifier;
import java.nio.file.Files;
import java.nio.file.Path;
import java.util.ArrayList;
import java.util.List;
import java.util.TreeSet;

/** The public face, and those rules of LANGUAGE.md that can be seen from the class and its source. */
public final class FaceTest {
    private static final String[] FACE = {
        "int feed(int,int,int,int,int)", "boolean end(int)",
        "int dock() throws IllegalArgumentException,UnsupportedOperationException",
        "int law() throws IllegalArgumentException", "int fault()",
        "int ship(int,int) throws IndexOutOfBoundsException,NoSuchElementException",
        "int place(int,int) throws IndexOutOfBoundsException,NoSuchElementException",
        "int tide(int) throws IndexOutOfBoundsException", "int hours(int) throws IllegalArgumentException",
        "boolean gate(boolean) throws IllegalStateException",
        "int enter(int,int) throws IndexOutOfBoundsException,IllegalStateException",
        "int leave(int) throws IndexOutOfBoundsException,IllegalStateException",
        "int comes(int,int,int) throws IllegalArgumentException,IllegalStateException",
        "boolean block(int,boolean) throws IndexOutOfBoundsException",
        "int pumps(int) throws IllegalArgumentException", "int hands(int) throws IllegalArgumentException",
        "int flow(int,int) throws IndexOutOfBoundsException,IllegalArgumentException",
        "int pulls()", "int leaks()", "boolean even()", "int room()", "int load()", "int which()", "int dry()",
        "int ready()", "int ease()", "int cost()", "int first()",
        "int goes(boolean) throws IllegalArgumentException", "int ask() throws IllegalArgumentException",
        "int lies() throws IllegalArgumentException", "int likely() throws IllegalArgumentException",
        "int sound() throws IllegalArgumentException", "boolean knocks()", "int knock()",
        "int beds(int) throws IndexOutOfBoundsException", "int pairs(int) throws IndexOutOfBoundsException",
        "int rests(int) throws IndexOutOfBoundsException", "int odds(int,int) throws IllegalArgumentException",
        "int most(int) throws NoSuchElementException", "int waiting()", "int docked()", "int gone()", "int hurt()",
        "int twins()", "int water(boolean)", "int ahead(int,boolean) throws IllegalArgumentException",
        "int trial(int,boolean) throws IllegalArgumentException",
        "int span(int,boolean) throws IllegalArgumentException",
        "int led(int,boolean) throws IndexOutOfBoundsException", "int log(int,int) throws NoSuchElementException",
        "int seed(int)", "boolean undo()", "void image()", "boolean back()", "int count(int)"};

    private static final String[] RULED_OUT = {"->", "::", "catch", "finally", "synchronized", "assert ", "Exact(",
        "static {", "@", "package ", "System.out", "hashCode", "toString", "Object ", "double ", "float ", "long "};

    public static void main(String[] args) throws Exception {
        face();
        classes();
        source();
        Check.end("FaceTest");
    }

    private static void face() throws Exception {
        Class<?> c = DryDock.class;
        Check.that("public and final", Modifier.isPublic(c.getModifiers()) && Modifier.isFinal(c.getModifiers()));
        TreeSet<String> want = new TreeSet<>(List.of(FACE));
        TreeSet<String> got = new TreeSet<>();
        for (Method m : c.getDeclaredMethods()) {
            if (!Modifier.isPrivate(m.getModifiers())) {
                Check.that(m + " is public and of the object", m.getModifiers() == Modifier.PUBLIC);
                got.add(told(m));
            } else {
                Check.that(m.getName() + " is no name of the face",
                        want.stream().noneMatch(w -> w.contains(" " + m.getName() + "(")));
            }
        }
        Check.is("the methods", want, () -> got);
        Constructor<?>[] makers = c.getDeclaredConstructors();
        Check.that("one constructor", makers.length == 1 && makers[0].getParameterCount() == 0
                && makers[0].getModifiers() == Modifier.PUBLIC);
        List<String> open = new ArrayList<>();
        for (Field f : c.getDeclaredFields()) {
            if (!Modifier.isPrivate(f.getModifiers())) {
                open.add(f.getName());
            }
        }
        Check.is("the constants", List.of("NONE"), () -> open);
        Check.is("NONE", -1, () -> DryDock.NONE);
    }

    private static String told(Method m) {
        StringBuilder s = new StringBuilder(m.getReturnType().getSimpleName()).append(' ').append(m.getName());
        for (int i = 0; i < m.getParameterCount(); i++) {
            s.append(i == 0 ? "(" : ",").append(m.getParameterTypes()[i].getSimpleName());
        }
        s.append(m.getParameterCount() == 0 ? "()" : ")");
        for (int i = 0; i < m.getExceptionTypes().length; i++) {
            s.append(i == 0 ? " throws " : ",").append(m.getExceptionTypes()[i].getSimpleName());
        }
        return s.toString();
    }

    private static void classes() {
        Class<?>[] inside = DryDock.class.getDeclaredClasses();
        Check.that("some twelve classes", inside.length + 1 <= 12);
        List<Class<?>> all = new ArrayList<>(List.of(inside));
        all.add(DryDock.class);
        for (Class<?> c : all) {
            int fields = 0;
            for (Field f : c.getDeclaredFields()) {
                boolean fixed = Modifier.isStatic(f.getModifiers());
                fields += fixed ? 0 : 1;
                Check.that(f + " is final, if it is static", !fixed || Modifier.isFinal(f.getModifiers()));
            }
            Check.that(c + " has some twenty fields", fields <= 20);
            Check.that(c + " is static, or the face itself",
                    c == DryDock.class || Modifier.isStatic(c.getModifiers()));
            for (Method m : c.getDeclaredMethods()) {
                Check.that(m + " takes seven at most", m.getParameterCount() <= 7);
                Check.that(m.getName() + " is no name of the face", c == DryDock.class
                        || List.of(FACE).stream().noneMatch(w -> w.contains(" " + m.getName() + "(")));
            }
        }
    }

    private static void source() throws Exception {
        String source = Files.readString(Path.of("src/main/java/DryDock.java"));
        for (String word : RULED_OUT) {
            Check.that("the source has no " + word, !source.contains(word));
        }
        Check.that("signs are 10 and 32 to 126", source.chars().allMatch(b -> b == 10 || b >= 32 && b < 127));
        for (String line : source.split("\n")) {
            Check.that("only its own exception is brought in: " + line,
                    !line.startsWith("import ") || line.equals("import java.util.NoSuchElementException;"));
        }
    }
}
