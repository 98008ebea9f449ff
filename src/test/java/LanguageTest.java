import java.io.IOException;
import java.nio.file.Files;
import java.nio.file.Path;
import java.util.Set;
import java.util.TreeSet;
import java.util.regex.Matcher;
import java.util.regex.Pattern;

/** What of LANGUAGE.md can be seen in the text of the program. Run from the root of the project. */
final class LanguageTest {
    private static final Due DUE = new Due("LanguageTest");
    private static final Set<String> LIBRARY = Set.of("Arrays.fill", "Arrays.copyOf", "Arrays.copyOfRange",
        "System.arraycopy", "Math.abs", "Math.min", "Math.max", "Math.floorDiv", "Math.floorMod");

    public static void main(String[] args) throws IOException {
        String source = Files.readString(Path.of("src/main/java/RayGround.java"));
        String code = withoutComments(source);
        DUE.holds("plain signs alone", source.chars().allMatch(c -> c == '\n' || c >= 32 && c < 127));
        forbidden(code);
        library(code);
        methods(code);
        loops(code);
        DUE.end();
    }

    private static String withoutComments(String source) {
        return source.replaceAll("(?s)/\\*.*?\\*/", "").replaceAll("//[^\n]*", "");
    }

    private static void forbidden(String code) {
        String[] words = {"throw", "throws", "try", "catch", "finally", "synchronized", "assert", "package", "var",
            "yield", "volatile", "transient", "native", "float", "double", "Object", "Exact", "equals", "hashCode",
            "toString", "Random", "Thread", "currentTimeMillis", "nanoTime", "exit", "abstract", "protected"};
        for (String word : words) {
            DUE.holds("no " + word, !Pattern.compile("\\b" + word + "\\b").matcher(code).find());
        }
        DUE.holds("no lambda", !code.contains("->"));
        DUE.holds("no method reference", !code.contains("::"));
        DUE.holds("no texts joined by +", !code.contains("\""));
        DUE.holds("one import", code.split("\nimport ", -1).length == 1 || code.startsWith("import java.util.Arrays;"));
        DUE.is("one import", code.split("\\bimport ", -1).length - 1, 1);
        DUE.holds("at most twelve classes", code.split("\\bclass ", -1).length - 1 <= 12);
        Matcher inside = Pattern.compile("\n    [^\n]*\\bclass ").matcher(code);
        while (inside.find()) {
            DUE.holds("classes inside are static", inside.group().contains("static"));
        }
    }

    private static void library(String code) {
        Matcher call = Pattern.compile("\\b(Arrays|System|Math|Integer|Long|List|String)\\.\\w+").matcher(code);
        TreeSet<String> others = new TreeSet<>();
        while (call.find()) {
            if (!LIBRARY.contains(call.group())) {
                others.add(call.group());
            }
        }
        DUE.holds("no library but what is listed, found " + others, others.isEmpty());
    }

    // A method starts where a line ends with "{" behind a list of parameters, and ends with the brace of its depth.
    private static void methods(String code) {
        Matcher head = Pattern.compile(
            "(?m)^( {4}| {8})(?! |if|for|while|switch|else|do)[\\w\\[\\] ]+\\(([^()]*)\\) \\{$").matcher(code);
        int found = 0;
        while (head.find()) {
            found++;
            int end = code.indexOf("\n" + head.group(1) + "}", head.start());
            int lines = code.substring(head.start(), Math.max(end, head.start())).split("\n").length + 1;
            DUE.holds("60 lines at most: " + head.group().trim(), end > 0 && lines <= 60);
            DUE.holds("seven parameters at most: " + head.group().trim(), head.group(2).split(",").length <= 7);
        }
        DUE.holds("methods are found", found > 50);
    }

    // Each loop counts in its own lines, against a bound that stands in its head (rule 9).
    private static void loops(String code) {
        Matcher head = Pattern.compile("(?m)^ *(for|while) \\((.*)\\) \\{$").matcher(code);
        int found = 0;
        while (head.find()) {
            found++;
            String inside = head.group(2);
            if (head.group(1).equals("while")) {
                String body = code.substring(head.end(), endOfBlock(code, head.end()));
                DUE.holds("counts: while (" + inside + ")", counts(inside, body));
            } else if (!inside.contains(" : ")) {
                String[] parts = inside.split(";");
                DUE.holds("counts: for (" + inside + ")", parts.length == 3 && counts(parts[1], parts[2] + ";"));
            }
        }
        DUE.is("loops looked at", found, code.split("\\b(for|while) \\(", -1).length - 1);
    }

    private static boolean counts(String condition, String lines) {
        Matcher bound = Pattern.compile("\\b(\\w+)(?: - \\w+)? [<>]=? ").matcher(condition);
        boolean found = false;
        while (bound.find()) {
            found |= Pattern.compile("\\b" + bound.group(1) + "(\\+\\+|--);").matcher(lines).find();
        }
        return found;
    }

    private static int endOfBlock(String code, int from) {
        int depth = 1;
        int at = from;
        while (depth > 0 && at < code.length()) {
            depth += code.charAt(at) == '{' ? 1 : code.charAt(at) == '}' ? -1 : 0;
            at++;
        }
        return at;
    }
}
