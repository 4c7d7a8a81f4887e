import java.io.IOException;
import java.nio.file.Files;
import java.nio.file.Path;
import java.util.List;
import java.util.Set;
import java.util.TreeSet;
import java.util.regex.Matcher;
import java.util.regex.Pattern;

/** What of ../shared/LANGUAGE.md can be read off the text: words that are ruled out, the library, lengths. */
public final class LanguageTest {
    private static final Path SOURCE = Path.of("src/main/java/GuardedInodes.java");
    private static final Set<String> FORBIDDEN = Set.of(
            "package", "throw", "throws", "try", "catch", "finally", "synchronized", "assert", "volatile", "transient",
            "native", "protected", "var", "Object", "equals", "hashCode", "toString", "HashMap", "Map", "Set", "Optional",
            "Thread", "Random", "System.out", "currentTimeMillis", "nanoTime", "File", "Exception", "Error", "getClass");
    private static final Set<String> LIBRARY_CALLS = Set.of(
            "Arrays.fill", "Arrays.copyOf", "Arrays.copyOfRange", "System.arraycopy", "Math.min", "Math.max");
    private static final Due DUE = new Due();

    public static void main(String[] args) throws IOException {
        String text = withoutComments(Files.readString(SOURCE));
        words(text);
        library(text);
        DUE.holds("no lambda or method reference", !text.contains("->") && !text.contains("::"));
        DUE.holds("texts hold no characters above 255", text.chars().allMatch(c -> c < 256));
        methodLengths(List.of(text.split("\n")));
        DUE.end();
    }

    private static String withoutComments(String text) {
        return text.replaceAll("(?s)/\\*.*?\\*/", "").replaceAll("//[^\n]*", "");
    }

    private static void words(String text) {
        Matcher word = Pattern.compile("[A-Za-z_]\\w*").matcher(text);
        while (word.find()) {
            DUE.holds("the word " + word.group() + " is allowed", !FORBIDDEN.contains(word.group()));
        }
    }

    private static void library(String text) {
        Set<String> imports = new TreeSet<>();
        Matcher imported = Pattern.compile("import ([\\w.*]+);").matcher(text);
        while (imported.find()) {
            imports.add(imported.group(1));
        }
        DUE.holds("imports: " + imports, Set.of("java.util.Arrays", "java.util.ArrayList", "java.util.List").containsAll(imports));
        Matcher call = Pattern.compile("\\b([A-Z][a-z]\\w*\\.\\w+)\\s*\\(").matcher(text);
        while (call.find()) {
            DUE.holds("the call " + call.group(1) + " is allowed", LIBRARY_CALLS.contains(call.group(1)));
        }
    }

    private static void methodLengths(List<String> lines) {
        int start = -1;
        for (int i = 0; i < lines.size(); i++) {
            String line = lines.get(i);
            if (line.endsWith(") {") && line.matches(" {4}( {4})?[A-Za-z].*") && !line.trim().matches("(if|for|while|switch).*")) {
                start = i;
            }
            if (start >= 0 && line.matches(" {4}( {4})?}") && line.indexOf('}') == indent(lines.get(start))) {
                DUE.holds(lines.get(start).trim() + " is short: " + (i - start), i - start < 60);
                start = -1;
            }
        }
    }

    private static int indent(String line) {
        return line.length() - line.stripLeading().length();
    }
}
