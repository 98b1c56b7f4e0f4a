import java.io.IOException;
import java.nio.file.Files;
import java.nio.file.Path;
import java.util.HashSet;
import java.util.List;
import java.util.Set;
import java.util.regex.Matcher;
import java.util.regex.Pattern;

/** What of LANGUAGE.md can be seen in the text of the program. */
public final class LanguageTest {
    private static final Path PROGRAM = Path.of("src/main/java/DriftGrinders.java");
    private static final int METHOD_LINES_MOST = 60;
    private static final int PARAMETERS_MOST = 7;
    private static final int CLASSES_MOST = 12;

    /** A method's or constructor's first line. */
    private static final Pattern HEAD = Pattern.compile(
            "^( +)((?:public |private |static |final )*)([\\w\\[\\]]+ )?(\\w+)\\(([^()]*)\\) \\{$");

    private LanguageTest() {
    }

    public static void main(String[] args) throws IOException {
        List<String> lines = Files.readAllLines(PROGRAM);
        String code = withoutComments(String.join("\n", lines));
        forbiddenWords(code);
        classes(code);
        methods(lines);
        newOnlyInFieldsAndConstructors(code);
        libraryCalls(code);
        Due.end();
    }

    private static String withoutComments(String code) {
        return code.replaceAll("(?s)/\\*.*?\\*/", "").replaceAll("//[^\n]*", "");
    }

    private static void forbiddenWords(String code) {
        String[] words = {"throw", "throws", "try", "catch", "finally", "synchronized", "assert", "import",
            "package", "protected", "volatile", "transient", "native", "yield", "var", "Object", "Class",
            "Thread", "hashCode", "equals", "toString", "double", "float", "extends", "implements"};
        for (String word : words) {
            boolean found = Pattern.compile("\\b" + word + "\\b").matcher(code).find();
            Due.due("LANGUAGE: " + word, 0, found ? 1 : 0);
        }
        for (String sign : new String[] {"->", "::", "@", "static {", "Exact"}) {
            Due.due("LANGUAGE: " + sign, 0, code.contains(sign) ? 1 : 0);
        }
        for (int i = 0; i < code.length(); i++) {
            if (code.charAt(i) > 126) {
                Due.due("LANGUAGE: a sign of the text", 0, code.charAt(i));
            }
        }
    }

    private static void classes(String code) {
        Matcher matcher = Pattern.compile("(?m)^( *)(.*)\\bclass (\\w+)").matcher(code);
        int found = 0;
        while (matcher.find()) {
            found++;
            String words = matcher.group(1).isEmpty() ? "public final " : "private static final ";
            Due.due("LANGUAGE: class " + matcher.group(3), 1, matcher.group(2).equals(words) ? 1 : 0);
        }
        Due.due("LANGUAGE: classes", 1, found > 0 && found <= CLASSES_MOST ? 1 : 0);
    }

    private static void methods(List<String> lines) {
        Set<String> open = new HashSet<>();
        Set<String> others = new HashSet<>();
        for (int i = 0; i < lines.size(); i++) {
            Matcher head = HEAD.matcher(lines.get(i));
            if (!head.matches() || head.group(4).matches("if|for|while|switch")) {
                continue;
            }
            String name = head.group(4);
            (head.group(2).contains("public") ? open : others).add(name);
            int end = i;
            while (!lines.get(end).equals(head.group(1) + "}")) {
                end++;
            }
            Due.due("LANGUAGE: lines of " + name, 1, end - i + 1 <= METHOD_LINES_MOST ? 1 : 0);
            int parameters = head.group(5).isEmpty() ? 0 : head.group(5).split(",").length;
            Due.due("LANGUAGE: parameters of " + name, 1, parameters <= PARAMETERS_MOST ? 1 : 0);
        }
        Due.due("LANGUAGE: public methods and the constructor", 24, open.size());
        others.retainAll(open);
        Due.due("LANGUAGE: names that public methods bear too: " + others, 0, others.size());
    }

    /** So no call makes anything: a run takes the room of its objects as they were made. */
    private static void newOnlyInFieldsAndConstructors(String code) {
        for (String line : code.split("\n")) {
            if (line.contains("new ")) {
                boolean field = line.matches(" +private (final )?[\\w\\[\\]]+ \\w+ = new .*;");
                boolean row = line.matches(" +(amounts|marks) = new int\\[room\\];");
                Due.due("LANGUAGE:" + line, 1, field || row ? 1 : 0);
            }
        }
    }

    private static void libraryCalls(String code) {
        Set<String> known = Set.of("Math.max", "Math.min", "Math.abs", "System.arraycopy");
        Matcher call = Pattern.compile("\\b[A-Z][a-z]\\w*\\.\\w+").matcher(code);
        while (call.find()) {
            Due.due("LANGUAGE: " + call.group(), 1, known.contains(call.group()) ? 1 : 0);
        }
    }
}
