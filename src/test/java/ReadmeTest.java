import java.lang.reflect.Method;
import java.nio.file.Files;
import java.nio.file.Path;
import java.util.TreeSet;
import java.util.regex.Matcher;
import java.util.regex.Pattern;

/** README.md tells no wrong answers, and names every call of the face. */
public final class ReadmeTest {
    private static final Pattern CALL = Pattern.compile("x\\.(\\w+)\\(([-0-9, ]*)\\);\\s*// (true|false|-?\\d+)\\b.*");
    private static final Due due = new Due();

    private static Object answer(FencedCode x, String name, String numbers) throws ReflectiveOperationException {
        String[] words = numbers.isEmpty() ? new String[0] : numbers.split(", ");
        Class<?>[] types = new Class<?>[words.length];
        Object[] values = new Object[words.length];
        for (int n = 0; n < words.length; n++) {
            types[n] = int.class;
            values[n] = Integer.parseInt(words[n]);
        }
        return FencedCode.class.getMethod(name, types).invoke(x, values);
    }

    private static void example(String block) throws ReflectiveOperationException {
        FencedCode x = new FencedCode();
        String[] lines = block.strip().split("\n");
        due.is("an example begins with a new object", lines[0].equals("FencedCode x = new FencedCode();"), true);
        for (int n = 1; n < lines.length; n++) {
            Matcher call = CALL.matcher(lines[n]);
            boolean isCall = call.matches();
            due.is("is a call with its answer: " + lines[n], isCall, true);
            if (isCall) {
                String got = answer(x, call.group(1), call.group(2)).toString();
                due.is(lines[n] + " answered " + got, got.equals(call.group(3)), true);
            }
        }
    }

    private static TreeSet<String> names() {
        TreeSet<String> names = new TreeSet<>();
        for (Method method : FencedCode.class.getMethods()) {
            if (method.getDeclaringClass() == FencedCode.class) {
                names.add(method.getName());
            }
        }
        return names;
    }

    public static void main(String[] args) throws Exception {
        String text = Files.readString(Path.of("README.md"));
        String[] parts = text.split("```");
        int examples = 0;
        for (int n = 1; n < parts.length; n += 2) {
            if (parts[n].startsWith("java\n")) {
                example(parts[n].substring(5));
                examples++;
            }
        }
        due.is("examples", examples, 2);
        for (String name : names()) {
            due.is("names " + name, text.contains("`" + name + "("), true);
        }
        due.is("says how to run the tests", text.contains("```sh\n.ci/run\n```"), true);
        for (Path test : Files.newDirectoryStream(Path.of("src", "test", "java"), "*{Test,Sentences}.java")) {
            String name = test.getFileName().toString().replace(".java", "");
            due.is("names " + name, name.equals("Sentences") || text.contains("`" + name + "`"), true);
        }
        due.end();
    }
}
