import java.io.File;
import java.lang.reflect.Field;
import java.lang.reflect.InvocationTargetException;
import java.lang.reflect.Method;
import java.lang.reflect.Modifier;
import java.nio.file.Files;
import java.nio.file.Path;
import java.util.HashSet;
import java.util.Set;
import java.util.regex.Matcher;
import java.util.regex.Pattern;

/** README.md tells the truth: its example is made, call by call, and it leaves nothing out. */
public final class ReadmeTest {
    private static final Pattern BLOCK = Pattern.compile("(?s)```java\n(.*?)```");
    private static final Pattern CALL = Pattern.compile("x\\.(\\w+)\\((.*?)\\); +// -> (\\S+).*");

    private static final Due due = new Due();

    public static void main(String[] args) throws Exception {
        String readme = Files.readString(Path.of("README.md"));
        example(readme);
        faceIsListed(readme);
        testsAreListed(readme);
        due.end();
    }

    private static void example(String readme) throws Exception {
        Matcher block = BLOCK.matcher(readme);
        due.is("README.md has an example", block.find() ? 1 : 0, 1);
        String[] lines = block.group(1).split("\n");
        due.isText("the example begins with", lines[0], "ResampledRows x = new ResampledRows();");
        ResampledRows x = new ResampledRows();
        for (int at = 1; at < lines.length; at++) {
            Matcher call = CALL.matcher(lines[at]);
            if (call.matches()) {
                due.isText(lines[at], answer(x, call.group(1), call.group(2)), call.group(3));
            } else {
                due.say("not a call with its answer: " + lines[at]);
            }
        }
    }

    private static Method method(String name) {
        for (Method method : ResampledRows.class.getDeclaredMethods()) {
            if (method.getName().equals(name) && Modifier.isPublic(method.getModifiers())) {
                return method;
            }
        }
        throw new IllegalArgumentException("README.md calls " + name);
    }

    private static String answer(ResampledRows x, String name, String written) throws Exception {
        Method method = method(name);
        String[] texts = written.isEmpty() ? new String[0] : written.split(", ");
        Object[] arguments = new Object[texts.length];
        for (int k = 0; k < texts.length; k++) {
            if (texts[k].endsWith("L")) {
                arguments[k] = Long.valueOf(texts[k].substring(0, texts[k].length() - 1));
            } else {
                arguments[k] = Integer.valueOf(texts[k]);
            }
        }
        try {
            return String.valueOf(method.invoke(x, arguments));
        } catch (InvocationTargetException e) {
            return e.getCause().getClass().getSimpleName();
        }
    }

    private static void faceIsListed(String readme) {
        for (Method method : ResampledRows.class.getDeclaredMethods()) {
            if (Modifier.isPublic(method.getModifiers())) {
                Pattern row = Pattern.compile("^\\| `" + method.getName() + "\\(", Pattern.MULTILINE);
                due.is("README.md lists " + method.getName(), row.matcher(readme).find() ? 1 : 0, 1);
            }
        }
        for (Field field : ResampledRows.class.getDeclaredFields()) {
            if (Modifier.isPublic(field.getModifiers())) {
                due.is("README.md lists " + field.getName(), readme.contains("`" + field.getName() + "`") ? 1 : 0, 1);
            }
        }
    }

    private static void testsAreListed(String readme) {
        Set<String> listed = new HashSet<>();
        Matcher row = Pattern.compile("^\\| `(\\w+Test)` \\|", Pattern.MULTILINE).matcher(readme);
        while (row.find()) {
            listed.add(row.group(1) + ".java");
        }
        Set<String> there = new HashSet<>();
        for (String file : new File("src/test/java").list()) {
            if (file.endsWith("Test.java")) {
                there.add(file);
            }
        }
        due.is("README.md lists the tests that there are", listed.equals(there) ? 1 : 0, 1);
    }
}
