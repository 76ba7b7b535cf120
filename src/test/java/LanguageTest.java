import java.nio.file.Files;
import java.nio.file.Path;
import java.util.regex.Matcher;
import java.util.regex.Pattern;

/** Words and signs that LANGUAGE.md, or the page of the project, keeps out of the class. */
public final class LanguageTest {
    private static final String[] RULED_OUT = {
        "^package\\b", "->", "::", "\\bfinally\\b", "\\bsynchronized\\b", "\\bassert\\b", "\\bcatch\\b",
        "\\w+Exact\\b", "\\bSystem\\.(?!arraycopy\\b)", "\\bMath\\.", "\\bObject\\b", "\\bThread\\b",
        "\\bRandom\\b", "\\bNaN\\b", "\\bprotected\\b", "\\bstatic\\s*\\{", "\\bwhile\\s*\\(true\\)",
        "\\bhashCode\\b", "\\btoString\\b", "\\bvar\\b", "[^\\x00-\\x7f]",
        "^import (?!java\\.util\\.Arrays;)", "\\bArrays\\.(?!fill\\b|copyOf\\b|copyOfRange\\b)"
    };
    private static final int LONGEST_METHOD = 60;

    private static final Due due = new Due();

    public static void main(String[] args) throws Exception {
        String source = Files.readString(Path.of("src/main/java/ResampledRows.java"));
        String code = source.replaceAll("(?s)/\\*.*?\\*/", "").replaceAll("//[^\n]*", "");
        for (String text : RULED_OUT) {
            Matcher found = Pattern.compile(text, Pattern.MULTILINE).matcher(code);
            due.is("ruled out: " + text, found.find() ? 1 : 0, 0);
        }
        throwsOnlyInHistory(code);
        callsMakeNoObject(code);
        methodsAreShort(source);
        due.end();
    }

    private static void throwsOnlyInHistory(String code) {
        Matcher thrown = Pattern.compile("throw new (\\w+)").matcher(code);
        int times = 0;
        while (thrown.find()) {
            times++;
            due.isText("thrown", thrown.group(1), "ArrayIndexOutOfBoundsException");
        }
        due.is("how many throw", times, 1);
    }

    /** What is made is made once for each object: in a field's initialiser, or in the constructor. */
    private static void callsMakeNoObject(String code) {
        Pattern made = Pattern.compile("\\bnew\\b|\\.clone\\(|copyOf");
        boolean isInside = false;
        for (String line : code.split("\n")) {
            isInside |= line.matches(" {4}private static final class .*");
            // Behind eight blanks stand the fields of the classes inside, but also a call's statements.
            boolean isField = isInside && line.matches(" {8}(final )?[\\w\\[\\]]+ \\w+ = new .*;");
            boolean isConstructors = line.matches(" {8}(tables|draws|run) = new \\w+\\(\\);");
            boolean isThrown = line.trim().startsWith("throw new ");
            if (made.matcher(line).find() && !isField && !isConstructors && !isThrown) {
                due.say("made by a call: " + line.trim());
            }
        }
    }

    private static void methodsAreShort(String source) {
        String[] lines = source.split("\n");
        Pattern head = Pattern.compile("^( {4}| {8})(?! )[\\w\\[\\] ]+\\([^;]*\\{$");
        for (int at = 0; at < lines.length; at++) {
            Matcher matcher = head.matcher(lines[at]);
            if (matcher.find()) {
                int end = at;
                while (!lines[end].equals(matcher.group(1) + "}")) {
                    end++;
                }
                if (end - at > LONGEST_METHOD) {
                    due.say("too long: " + lines[at].trim());
                }
            }
        }
    }
}
