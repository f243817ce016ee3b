import java.lang.reflect.Constructor;
import java.lang.reflect.Field;
import java.lang.reflect.Method;
import java.lang.reflect.Modifier;
import java.nio.file.Files;
import java.nio.file.Path;
import java.util.Arrays;
import java.util.Set;
import java.util.TreeSet;

/** The public face is the document's and no more, and the file keeps to what a test can see of LANGUAGE.md. */
public final class FaceTest {
    private static final Check check = new Check("FaceTest");
    private static final String FACE = "agree(int,int):int cost(int,int):int count(int):int fallen():int "
            + "father(int,int):int fault(int):int feed(int,int,int,int,int):int forget(int,int,int):boolean "
            + "kind(int,int,int):int know(int,int,int):int look(int,int):int name(int,int):int order(int):int "
            + "readings(int,int):int shape(int,int):int sign(int,int,int):int table(int,int):boolean";

    public static void main(String[] args) throws Exception {
        methods();
        fields();
        classesInside();
        source();
        check.end();
    }

    private static void methods() throws Exception {
        Set<String> face = new TreeSet<>();
        Set<String> names = new TreeSet<>();
        for (Method method : NameDesk.class.getDeclaredMethods()) {
            if (Modifier.isPublic(method.getModifiers())) {
                String types = Arrays.toString(method.getParameterTypes()).replaceAll("[\\[\\] ]", "");
                face.add(method.getName() + "(" + types + "):" + method.getReturnType());
                names.add(method.getName());
            }
        }
        check.due("public methods", String.join(" ", face), FACE);
        for (Method method : NameDesk.class.getDeclaredMethods()) {
            int kind = method.getModifiers();
            boolean hidden = Modifier.isPrivate(kind) && !names.contains(method.getName());
            check.due(method.getName(), Modifier.isPublic(kind) || hidden, true);
        }
        Constructor<?>[] makers = NameDesk.class.getDeclaredConstructors();
        check.due("constructors", makers.length, 1);
        check.due("public", Modifier.isPublic(makers[0].getModifiers()) && makers[0].getParameterCount() == 0, true);
        check.due("final", Modifier.isFinal(NameDesk.class.getModifiers()), true);
        check.due("look throws", Arrays.toString(NameDesk.class.getMethod("look", int.class, int.class).getExceptionTypes()),
                "[class java.lang.IndexOutOfBoundsException, class java.util.NoSuchElementException]");
    }

    private static void fields() {
        for (Field field : NameDesk.class.getDeclaredFields()) {
            int kind = field.getModifiers();
            check.due(field.getName(), Modifier.isPrivate(kind) || field.getName().equals("NONE"), true);
            check.due(field.getName(), !Modifier.isStatic(kind) || Modifier.isFinal(kind), true);
        }
    }

    private static void classesInside() {
        Class<?>[] inside = NameDesk.class.getDeclaredClasses();
        check.due("at most twelve", inside.length < 12, true);
        for (Class<?> one : inside) {
            int kind = one.getModifiers();
            check.due(one.getName(), Modifier.isStatic(kind) && Modifier.isPrivate(kind), true);
            for (Method method : one.getDeclaredMethods()) {
                check.due(method.getName(), method.getParameterCount() <= 7, true);
                check.due(method.getName(), (" " + FACE).contains(" " + method.getName() + "("), false);
            }
        }
    }

    private static void source() throws Exception {
        String source = Files.readString(Path.of("src/main/java/NameDesk.java"));
        String[] words = {"catch", "finally", "synchronized", "assert", "->", "::", "static {", "package ", "System.", "while (true)"};
        for (String word : words) {
            check.due(word, source.contains(word), false);
        }
        check.due("imports", source.split("import ").length - 1, 1);
    }
}
