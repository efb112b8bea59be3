import java.io.IOException;
import java.nio.file.Files;
import java.nio.file.Path;
import java.util.HashSet;
import java.util.List;
import java.util.Set;
import java.util.regex.Matcher;
import java.util.regex.Pattern;

/** What of ../shared/LANGUAGE.md can be seen in the words of the source (its path is the argument). */
public final class LanguageTest {
    private static final String[] BARRED = {
        "throw", "throws", "try", "catch", "finally", "synchronized", "assert", "protected", "package",
        "volatile", "transient", "native", "strictfp", "var", "yield", "Exception", "Error", "Object",
        "Random", "Thread", "equals", "hashCode", "toString", "abstract class Object"};
    private static final Set<String> IMPORTS = Set.of(
        "java.util.Arrays", "java.util.ArrayList", "java.util.List", "java.util.Iterator");
    private static final Set<String> LIBRARY_TYPES = Set.of(
        "String", "StringBuilder", "Integer", "Long", "Math", "System", "Arrays", "ArrayList", "List",
        "Iterator", "Iterable", "Comparable");
    private static final Set<String> LIBRARY_CALLS = Set.of(
        "List.of(", "System.arraycopy(", "Arrays.copyOf(", "Arrays.copyOfRange(", "Arrays.fill(");
    // The like of these are allowed too: one that the class comes to need is put here.
    private static final Set<String> NUMBER_FUNCTIONS = Set.of(
        "compare(", "max(", "min(", "abs(", "bitCount(", "floorDiv(", "floorMod(", "signum(");
    private static final int LONGEST_METHOD = 60;

    public static void main(String[] args) throws IOException {
        String source = Files.readString(Path.of(args[0]));
        String code = source.replaceAll("(?s)/\\*.*?\\*/", " ").replaceAll("//[^\n]*", " ")
            .replaceAll("\"[^\"\n]*\"", "\"\"");
        for (String word : BARRED) {
            Check.due("'" + word + "' stands in the code", find("\\b" + word + "\\b", code), false);
        }
        Check.due("a lambda", code.contains("->"), false);
        Check.due("a method reference", code.contains("::"), false);
        Check.due("a static block", find("\\bstatic\\s*\\{", code), false);
        Check.due("a function that may throw", find("Exact\\s*\\(", code), false);
        Check.due("a list of one library alone", find("import\\s+static|import[^;]*\\*", code), false);
        Matcher imports = Pattern.compile("import\\s+([\\w.]+)\\s*;").matcher(code);
        while (imports.find()) {
            Check.due("import of " + imports.group(1), IMPORTS.contains(imports.group(1)), true);
        }
        Check.due("boolean arrays copied by the library",
            find("arraycopy\\([^)]*isHeavy|clone\\(\\)", code), false);
        Check.due("signs beyond 127", source.chars().anyMatch(x -> x > 127), false);
        library(code.replaceAll("import[^;]*;", " "));
        methods(List.of(source.split("\n")));
        Check.end();
    }

    /** Rule 4 names functions of Integer, Long and Math, but none of their constants. */
    private static void library(String code) {
        Set<String> own = new HashSet<>();
        Matcher classes = Pattern.compile("\\b(?:class|record|enum|interface)\\s+(\\w+)").matcher(code);
        while (classes.find()) {
            own.add(classes.group(1));
        }
        Matcher types = Pattern.compile("\\b[A-Z]\\w*[a-z]\\w*").matcher(code);
        while (types.find()) {
            String name = types.group();
            Check.due("the type " + name, own.contains(name) || LIBRARY_TYPES.contains(name), true);
        }
        Matcher uses = Pattern.compile("\\b([A-Z]\\w*[a-z]\\w*)\\s*\\.\\s*(\\w+\\s*\\(?)").matcher(code);
        while (uses.find()) {
            String type = uses.group(1);
            String member = uses.group(2).replaceAll("\\s", "");
            boolean ofNumbers = type.equals("Integer") || type.equals("Long") || type.equals("Math");
            boolean listed = ofNumbers ? NUMBER_FUNCTIONS.contains(member)
                : LIBRARY_CALLS.contains(type + "." + member);
            Check.due("the use of " + type + "." + member, own.contains(type) || listed, true);
        }
    }

    private static boolean find(String pattern, String text) {
        return Pattern.compile(pattern).matcher(text).find();
    }

    /** A method begins at a line that ends with ") {" outside a method, and ends at its indent. */
    private static void methods(List<String> lines) {
        Pattern head = Pattern.compile("^( {4}| {8})(?!if|for|while|switch|return)\\w[^=;]*\\) \\{$");
        int seen = 0;
        for (int i = 0; i < lines.size(); i++) {
            Matcher m = head.matcher(lines.get(i));
            if (!m.find()) {
                continue;
            }
            int end = i;
            while (end < lines.size() && !lines.get(end).equals(m.group(1) + "}")) {
                end++;
            }
            seen++;
            Check.due("a short method: " + lines.get(i).trim(), end - i < LONGEST_METHOD, true);
        }
        Check.due("methods were found", seen > 60, true);
    }
}
