import java.io.IOException;
import java.lang.reflect.Constructor;
import java.lang.reflect.Field;
import java.lang.reflect.Method;
import java.lang.reflect.Modifier;
import java.nio.file.Files;
import java.nio.file.Path;
import java.util.Arrays;
import java.util.Set;
import java.util.TreeSet;
import java.util.regex.Matcher;
import java.util.regex.Pattern;

/** The rules of ../shared/LANGUAGE.md that can be seen in the source and in the compiled class. */
public class LanguageTest {
    static int wrong;

    static void must(boolean holds, String rule) {
        if (!holds) {
            wrong++;
            System.out.println("broken: " + rule);
        }
    }

    static final String[] FACE = {"put(int,long)", "shape(int,int,int)", "empty(int)", "told(int)", "type(long,int)", "number(int)",
        "figures(int)", "nine(int,int)", "reckon(int,int,int,int)", "root(int,int)", "order(int,int)", "nth(int,int,int)",
        "which(int,int,int)", "both(int,int)", "side(int,int,int)", "one(int,int,int,int)", "less(int)", "round(int,int)",
        "near(int,int,int,int)", "off(int,int,int)", "best(int,int,int,int)", "two(int,int)", "three(int,int)", "four(int,int)",
        "fewest(int)", "wall(int,int)", "flat(int,int)", "corners(int,int)", "string(int)", "claims()", "image()", "restore()",
        "heap(int,int,int,int,int)", "sheet(int,int,int)", "drop(int)", "item(int,int,int,long)", "film(int,int,int,int)"};

    static String sign(Method m) {
        StringBuilder s = new StringBuilder(m.getName()).append("(");
        for (Class<?> type : m.getParameterTypes()) {
            s.append(s.charAt(s.length() - 1) == '(' ? "" : ",").append(type.getName());
        }
        return s.append(")").toString();
    }

    static void face() {
        Class<?> face = OrangeHeaps.class;
        must(Modifier.isPublic(face.getModifiers()) && Modifier.isFinal(face.getModifiers()), "1: the class is public and final");
        Set<String> shown = new TreeSet<>();
        Set<String> names = new TreeSet<>();
        for (Method m : face.getDeclaredMethods()) {
            if (Modifier.isPublic(m.getModifiers())) {
                shown.add(sign(m));
                names.add(m.getName());
                must(m.getReturnType() == int.class && !Modifier.isStatic(m.getModifiers()), "1: " + m);
            } else {
                must(Modifier.isPrivate(m.getModifiers()), "1: not private: " + m);
            }
        }
        must(shown.equals(new TreeSet<>(Arrays.asList(FACE))), "1: the methods of the face: " + shown);
        Set<String> constants = new TreeSet<>();
        for (Field f : face.getDeclaredFields()) {
            if (Modifier.isPublic(f.getModifiers())) {
                constants.add(f.getName());
                must(Modifier.isStatic(f.getModifiers()) && Modifier.isFinal(f.getModifiers()), "1: " + f);
            } else {
                must(Modifier.isPrivate(f.getModifiers()), "1: not private: " + f);
            }
        }
        must(constants.equals(Set.of("BAD", "NOT", "FULL", "NONE", "NULL", "CAST", "INDEX", "SIZE", "ZERO")), "1: constants " + constants);
        Constructor<?>[] constructors = face.getDeclaredConstructors();
        must(constructors.length == 1 && Modifier.isPublic(constructors[0].getModifiers()) && constructors[0].getParameterCount() == 0,
                "1: the constructor");
        must(face.getDeclaredClasses().length <= 13, "11: at most some twelve classes");
        for (Class<?> inside : face.getDeclaredClasses()) {
            must(Modifier.isStatic(inside.getModifiers()), "2: static: " + inside);
            members(inside, names);
        }
        members(face, names);
    }

    static void members(Class<?> inside, Set<String> names) {
        int fields = 0;
        for (Field f : inside.getDeclaredFields()) {
            boolean isStatic = Modifier.isStatic(f.getModifiers());
            fields += isStatic ? 0 : 1;
            must(!isStatic || Modifier.isFinal(f.getModifiers()), "5: " + f);
        }
        must(fields <= 20, "11: fields of " + inside);
        for (Method m : inside.getDeclaredMethods()) {
            must(m.getParameterCount() <= 7, "11: " + m);
            must(!Modifier.isPrivate(m.getModifiers()) || !names.contains(m.getName()), "1: a private method with a public one's name: " + m);
            must(!m.isSynthetic(), "2: a lambda or a bridge: " + m);
        }
    }

    /** The source without comments, texts and signs. */
    static String bare(String source) {
        Matcher m = Pattern.compile("/\\*.*?\\*/|//[^\n]*|\"(?:\\\\.|[^\"\\\\])*\"|'(?:\\\\.|[^'\\\\])+'", Pattern.DOTALL).matcher(source);
        return m.replaceAll(" 0 ");
    }

    static void source(String source) {
        for (char c : source.toCharArray()) {
            must(c < 128, "3: a sign above 127");
        }
        String code = bare(source);
        String[] banned = {"throw", "throws", "try", "catch", "finally", "synchronized", "assert", "import\\s+(?!java\\.util\\.)\\w+", "package",
            "volatile", "transient", "native", "Object", "(Hash|Tree)(Map|Set)", "Math\\s*\\.\\s*(sqrt|pow|cbrt|floor|ceil|random|round)", "Thread",
            "System\\s*\\.\\s*(?!arraycopy)\\w+", "hashCode", "\\w+Exact", "->", "::", "BigInteger", "BigDecimal", "Random", "protected"};
        for (String word : banned) {
            String edge = Character.isLetter(word.charAt(0)) ? "\\b" : "";
            Matcher m = Pattern.compile(edge + word + edge).matcher(code);
            must(!m.find(), "4, 6: " + word);
        }
        must(!code.contains("static {"), "5: a static initialiser");
        must(!Pattern.compile("while\\s*\\(\\s*true|for\\s*\\(\\s*;\\s*;").matcher(code).find(), "9: a loop without an end");
        lengths(code);
    }

    static void lengths(String code) {
        int start = 0;
        int line = 0;
        for (String text : code.split("\n")) {
            line++;
            if (text.matches("\\s+(public |private |static |final )*[\\w\\[\\]]+ \\w+\\(.*\\{\\s*")) {
                start = line;
            }
            if (text.matches(" {4}(?: {4})?\\}") && start > 0) {
                must(line - start <= 60, "11: a method of " + (line - start) + " lines ends at line " + line);
                start = 0;
            }
        }
    }

    public static void main(String[] args) throws IOException {
        face();
        source(Files.readString(Path.of("src/main/java/OrangeHeaps.java")));
        System.out.println("LanguageTest: " + wrong + " wrong");
        System.exit(wrong == 0 ? 0 : 1);
    }
}
