import java.io.IOException;
import java.lang.reflect.Field;
import java.lang.reflect.Method;
import java.lang.reflect.Modifier;
import java.nio.file.Files;
import java.nio.file.Path;
import java.util.HashMap;
import java.util.Map;
import java.util.Set;
import java.util.TreeSet;
import java.util.regex.Matcher;
import java.util.regex.Pattern;

/** What README.md shows of calls, answers and refusals is what the class has and answers. */
public class ReadmeTest extends Boundaries {
    private static final Pattern CALL = Pattern.compile("heaps\\.(\\w+)\\(([^)]*)\\); +// (-?\\d+)(: .*)?");
    private static final Pattern FACE = Pattern.compile("\n    public int (\\w+)\\(([^)]*)\\)");
    private static final String MADE = "OrangeHeaps heaps = new OrangeHeaps();";

    static Map<String, Method> methods() {
        Map<String, Method> methods = new HashMap<>();
        for (Method m : OrangeHeaps.class.getDeclaredMethods()) {
            if (Modifier.isPublic(m.getModifiers())) {
                methods.put(m.getName(), m);
            }
        }
        return methods;
    }

    static int ask(OrangeHeaps heaps, Method m, String arguments) throws ReflectiveOperationException {
        String[] words = arguments.isEmpty() ? new String[0] : arguments.split(", ");
        Object[] values = new Object[words.length];
        for (int i = 0; i < words.length; i++) {
            long v = Long.decode(words[i].replaceFirst("L$", ""));
            values[i] = m.getParameterTypes()[i] == long.class ? (Object) v : (Object) Math.toIntExact(v);
        }
        return (int) m.invoke(heaps, values);
    }

    /** A line in a block of Java is an object made, or a call with its answer. */
    static void examples(String readme) throws ReflectiveOperationException {
        Map<String, Method> methods = methods();
        Set<String> shown = new TreeSet<>();
        Matcher block = Pattern.compile("```java\n(.*?)```", Pattern.DOTALL).matcher(readme);
        while (block.find()) {
            OrangeHeaps heaps = null;
            for (String line : block.group(1).split("\n")) {
                if (line.equals(MADE)) {
                    heaps = new OrangeHeaps();
                    continue;
                }
                Matcher call = CALL.matcher(line);
                boolean known = call.matches() && heaps != null && methods.containsKey(call.group(1));
                is("a line that is understood: " + line, "" + known, "true");
                if (known) {
                    shown.add(call.group(1));
                    is(line, ask(heaps, methods.get(call.group(1)), call.group(2)), Integer.parseInt(call.group(3)));
                }
            }
        }
        is("every call is shown with an answer", "" + shown, "" + new TreeSet<>(methods.keySet()));
    }

    /** A row for each call, with the arguments named as the class names them. */
    static void rows(String readme, String source) {
        Matcher face = FACE.matcher(source);
        int calls = 0;
        while (face.find()) {
            String call = face.group(1) + "(" + face.group(2).replaceAll("(int|long) ", "") + ")";
            is("a row of " + call, "" + readme.contains("\n| `" + call + "` | "), "true");
            calls++;
        }
        is("calls of the face", calls, methods().size());
    }

    static void refusals(String readme) throws ReflectiveOperationException {
        for (Field f : OrangeHeaps.class.getDeclaredFields()) {
            if (Modifier.isPublic(f.getModifiers())) {
                String row = "\n| `" + f.getName() + "` | " + f.getInt(null) + " | ";
                is("a row of " + f.getName(), "" + readme.contains(row), "true");
            }
        }
    }

    public static void main(String[] args) throws IOException, ReflectiveOperationException {
        String readme = Files.readString(Path.of("README.md"));
        sentence("README.md shows calls and answers");
        examples(readme);
        sentence("README.md has a row for each call");
        rows(readme, Files.readString(Path.of("src/main/java/OrangeHeaps.java")));
        sentence("README.md tells each refusal");
        refusals(readme);
        end("ReadmeTest");
    }
}
