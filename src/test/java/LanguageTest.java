import java.lang.reflect.Field;
import java.lang.reflect.Method;
import java.lang.reflect.Modifier;
import java.nio.file.Files;
import java.nio.file.Path;
import java.util.Arrays;
import java.util.TreeSet;

/** The face of the document and no more, and the rules of LANGUAGE.md that can be seen from outside. */
public final class LanguageTest {
    private static final Due due = new Due();
    private static final String[] FACE = {
        "int address(int)", "int build()", "int check()", "int clear()", "int encode(int,int,int,int)",
        "int input(int)", "int kind(int)", "int line(int,int,int,int)", "int output(int,int)", "int peek(int)",
        "int register(int,int)", "int run(int)", "int state(int,int)", "int trial(int)", "int word(int,int)",
        "boolean length(int)", "boolean poke(int,int)"};
    private static final String[] FORBIDDEN = {
        "->", "::", "\\btry\\b", "\\bcatch\\b", "\\bthrow\\b", "\\bsynchronized\\b", "\\bassert\\b", "\\bwhile\\b",
        "\\bSystem\\.(?!arraycopy)", "Exact\\(", "\\bRandom\\b", "\\bThread\\b", "\\bimport\\b", "\\bpackage\\b",
        "\\bprotected\\b", "static \\{"};

    private static String signature(Method method) {
        StringBuilder text = new StringBuilder(method.getReturnType() + " " + method.getName() + "(");
        for (Class<?> type : method.getParameterTypes()) {
            text.append(text.charAt(text.length() - 1) == '(' ? "" : ",").append(type);
        }
        return text.append(")").toString();
    }

    private static void face() {
        Class<?> face = FencedCode.class;
        TreeSet<String> open = new TreeSet<>();
        TreeSet<String> names = new TreeSet<>();
        for (Method method : face.getDeclaredMethods()) {
            if (!Modifier.isPrivate(method.getModifiers())) {
                open.add(signature(method));
                names.add(method.getName());
                due.is(method + " is public", Modifier.isPublic(method.getModifiers()), true);
                due.is(method + " is of the object", Modifier.isStatic(method.getModifiers()), false);
            }
        }
        due.is("methods " + open, open.equals(new TreeSet<>(Arrays.asList(FACE))), true);
        due.is("final", Modifier.isFinal(face.getModifiers()), true);
        due.is("constructors", face.getDeclaredConstructors().length, 1);
        due.is("public constructors", face.getConstructors().length, 1);
        due.is("its parameters", face.getConstructors()[0].getParameterCount(), 0);
        TreeSet<String> fields = new TreeSet<>();
        for (Field field : face.getDeclaredFields()) {
            if (!Modifier.isPrivate(field.getModifiers())) {
                fields.add(field.getName());
            }
        }
        due.is("open fields " + fields, fields.equals(new TreeSet<>(Arrays.asList("BAD", "FULL"))), true);
        inside(face, names);
    }

    private static void inside(Class<?> face, TreeSet<String> names) {
        due.is("classes", face.getDeclaredClasses().length <= 12, true);
        for (Class<?> inner : face.getDeclaredClasses()) {
            due.is(inner + " is static", Modifier.isStatic(inner.getModifiers()), true);
            due.is(inner + " is not public", Modifier.isPublic(inner.getModifiers()), false);
            for (Method method : inner.getDeclaredMethods()) {
                due.is(method + " has a name of the face", names.contains(method.getName()), false);
                due.is(method + " has too many parameters", method.getParameterCount() > 7, false);
            }
        }
    }

    private static void source() throws Exception {
        String text = Files.readString(Path.of("src/main/java/FencedCode.java"));
        String bare = text.replaceAll("(?s)/\\*.*?\\*/", "").replaceAll("//[^\n]*", "");
        for (String pattern : FORBIDDEN) {
            due.is("in the source: " + pattern, java.util.regex.Pattern.compile(pattern).matcher(bare).find(), false);
        }
        int longest = longestMethod(bare.split("\n"));
        due.is("the longest method has " + longest + " lines", longest > 20 && longest <= 60, true);
    }

    private static int longestMethod(String[] lines) {
        int longest = 0;
        for (int head = 0; head < lines.length; head++) {
            if (lines[head].matches("( {4}| {8})(?!if|for|switch|\\}|private static final class)[A-Za-z].*\\) \\{")) {
                String end = lines[head].substring(0, lines[head].indexOf(lines[head].trim())) + "}";
                int last = head;
                while (last < lines.length - 1 && !lines[last].equals(end)) {
                    last++;
                }
                longest = Math.max(longest, last - head + 1);
            }
        }
        return longest;
    }

    public static void main(String[] args) throws Exception {
        face();
        source();
        due.end();
    }
}
