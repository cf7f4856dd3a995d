import java.io.IOException;
import java.nio.file.Files;
import java.nio.file.Path;
import java.util.ArrayList;
import java.util.List;
import java.util.regex.Matcher;
import java.util.regex.Pattern;

/** What of ../shared/LANGUAGE.md can be seen from the text of the program, line by line. */
public final class LanguageTest {
    private static final Due due = new Due();
    private static final Pattern METHOD = Pattern.compile(
            "^ +(?:(public|private|static|final) )*([\\w\\[\\]]+) (\\w+)\\(([^)]*)\\)(?: throws [\\w, ]+)? \\{$");
    private static final Pattern CLASS = Pattern.compile("^ *(?:(?:public|private|static|final|abstract) )*class \\w+.*\\{$");
    private static final List<String> FACE = List.of("feed", "end", "make", "load", "refused", "reason", "programs", "packet", "size",
            "at", "context", "field", "clock", "run", "result", "place", "steps", "used", "lay", "desk", "area", "find", "update",
            "remove", "take", "next", "breaches");
    /** What rules 1 to 6 and 13 shut out, where one would be tempted. */
    private static final List<String> SHUT_OUT = List.of("import ", "package ", "->", "::", "finally", "synchronized", "assert ",
            "catch", "Exact(", "System.nano", "System.current", "Random", "Thread", "hashCode", ".equals(", "toString", "@", "char ",
            "double", "float", "instanceof", "goto", "native", "volatile", "List<", "String.");

    private static List<String> code(Path path) throws IOException {
        String text = Files.readString(path);
        text = Pattern.compile("/\\*.*?\\*/", Pattern.DOTALL).matcher(text).replaceAll(m -> m.group().replaceAll("[^\n]", ""));
        List<String> lines = new ArrayList<>();
        for (String line : text.split("\n", -1)) {
            lines.add(line.replaceAll("\"[^\"]*\"", "\"\"").replaceAll("//.*", ""));
        }
        return lines;
    }

    private static int count(String line, char c) {
        int n = 0;
        for (int k = 0; k < line.length(); k++) {
            n += line.charAt(k) == c ? 1 : 0;
        }
        return n;
    }

    public static void main(String[] args) throws IOException {
        Path path = Path.of(args.length > 0 ? args[0] : "src/main/java/ProgramBox.java");
        List<String> lines = code(path);
        int classes = 0, methods = 0;
        for (int k = 0; k < lines.size(); k++) {
            String line = lines.get(k), at = "line " + (k + 1) + ": ";
            for (String word : SHUT_OUT) {
                due.is(at + word, line.contains(word) ? 1 : 0, 0);
            }
            for (int c = 0; c < line.length(); c++) {
                due.is(at + "a sign", line.charAt(c) > 126 ? 1 : 0, 0);
            }
            if (CLASS.matcher(line).matches()) {
                classes++;
            }
            Matcher m = METHOD.matcher(line);
            if (!m.matches() || m.group(2).equals("else") || m.group(2).equals("return")) {
                continue;
            }
            methods++;
            boolean outside = line.startsWith("    public");
            due.is(at + "a name of the face", !outside && FACE.contains(m.group(3)) ? 1 : 0, 0);
            due.is(at + "more than seven parameters", m.group(4).isEmpty() || count(m.group(4), ',') < 7 ? 0 : 1, 0);
            int depth = 0, end = k;
            do {
                depth += count(lines.get(end), '{') - count(lines.get(end), '}');
                end++;
            } while (depth > 0);
            due.is(at + "more than sixty lines", end - k > 60 ? 1 : 0, 0);
        }
        due.is("some twelve classes", classes > 12 ? 1 : 0, 0);
        due.is("methods were found", methods > 100 ? 1 : 0, 1);
        due.end("lines of the program");
    }
}
