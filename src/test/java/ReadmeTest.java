import java.lang.reflect.InvocationTargetException;
import java.lang.reflect.Method;
import java.nio.file.Files;
import java.nio.file.Path;
import java.util.HashMap;
import java.util.HashSet;
import java.util.Map;
import java.util.Set;
import java.util.regex.Matcher;
import java.util.regex.Pattern;

/** The calls that README.md shows answer as it says, and it shows each call of the face. */
public final class ReadmeTest {
    private static final Check check = new Check("ReadmeTest");
    private static final String MAKING = "NameDesk desk = new NameDesk();";
    private static final Pattern BLOCK = Pattern.compile("(?s)```java\n(.*?)```");
    private static final Pattern CALL = Pattern.compile(
            "(?:int (\\w+) = )?desk\\.(\\w+)\\((.*?)\\); +// (-?\\d+|NONE|true|false|throws \\w+)(?:: (.*))?");
    private static final Pattern TEXT = Pattern.compile("\"(.*)\"");
    private static final Pattern SIGN = Pattern.compile("'(.)'");

    private static NameDesk desk = new NameDesk();
    private static final Map<String, Integer> variables = new HashMap<>();
    private static final Set<String> shown = new HashSet<>();

    public static void main(String[] args) throws Exception {
        Matcher block = BLOCK.matcher(Files.readString(Path.of("README.md")));
        while (block.find()) {
            for (String line : block.group(1).split("\n")) {
                runLine(line.trim());
            }
        }
        for (Method method : NameDesk.class.getDeclaredMethods()) {
            if (java.lang.reflect.Modifier.isPublic(method.getModifiers())) {
                check.due("README.md shows " + method.getName(), shown.contains(method.getName()), true);
            }
        }
        check.end();
    }

    private static void runLine(String line) throws Exception {
        if (line.isEmpty()) {
            return;
        }
        if (line.equals(MAKING)) {
            desk = new NameDesk();
            variables.clear();
            return;
        }
        Matcher call = CALL.matcher(line);
        boolean understood = call.matches();
        check.due("a call with its answer: " + line, understood, true);
        if (understood) {
            runCall(line, call);
        }
    }

    private static void runCall(String line, Matcher call) throws Exception {
        String name = call.group(2);
        Object[] values = numbers(call.group(3));
        String answer = answerOf(name, values);
        check.due(line, answer, call.group(4).replace("NONE", "-1"));
        shown.add(name);
        if (call.group(1) != null) {
            variables.put(call.group(1), Integer.valueOf(answer));
        }
        String said = call.group(5) == null ? "" : call.group(5);
        if (name.equals("feed")) {
            sayText(line, values, said);
        }
        if (name.equals("sign")) {
            Matcher sign = SIGN.matcher(said);
            check.due("the sign in " + line, sign.find() && sign.group(1).charAt(0) == Integer.parseInt(answer), true);
        }
    }

    private static Object[] numbers(String list) {
        String[] parts = list.isBlank() ? new String[0] : list.split(", *");
        Object[] values = new Object[parts.length];
        for (int i = 0; i < parts.length; i++) {
            Integer variable = variables.get(parts[i]);
            values[i] = variable != null ? variable : Integer.valueOf(Long.decode(parts[i]).intValue());
        }
        return values;
    }

    private static String answerOf(String name, Object[] values) throws Exception {
        Class<?>[] types = new Class<?>[values.length];
        java.util.Arrays.fill(types, int.class);
        try {
            return String.valueOf(NameDesk.class.getMethod(name, types).invoke(desk, values));
        } catch (InvocationTargetException e) {
            return "throws " + e.getCause().getClass().getSimpleName();
        }
    }

    /** The text that README.md tells beside a feed() is what its numbers say, with bytes 0 behind it. */
    private static void sayText(String line, Object[] values, String said) {
        Matcher text = TEXT.matcher(said);
        boolean told = text.find();
        check.due("a text told in " + line, told, true);
        for (int i = 0; told && i < values.length; i++) {
            check.due("number " + i + " in " + line, (Integer) values[i], Check.number(text.group(1), 4 * i));
        }
    }
}
