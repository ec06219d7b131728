import java.nio.file.Files;
import java.nio.file.Path;
import java.util.List;
import java.util.TreeSet;
import java.util.regex.Matcher;
import java.util.regex.Pattern;

/** What of ../shared/LANGUAGE.md can be seen by the words of the class's source. */
public final class LanguageTest {
    private static final Check check = new Check();
    private static final Pattern METHOD = Pattern.compile(
        "^ +(public |private )?(static )?(?:int|boolean|void|char|long) (\\w+)\\((.*)\\) \\{$");

    public static void main(String[] args) throws Exception {
        String source = Files.readString(Path.of("src/main/java/StoneTree.java"));
        String code = source.replaceAll("(?s)/\\*.*?\\*/", "").replaceAll("//[^\n]*", "");
        words(code);
        methods(code.split("\n"));
        check.due("classes inside, and the class", code.split("\\bclass ").length - 1, 6);
        check.finish();
    }

    private static void words(String code) {
        String[] forbidden = {"\\bthrow", "\\btry\\b", "\\bcatch\\b", "\\bimport\\b", "\\bpackage\\b", "\\bassert\\b",
            "\\bsynchronized\\b", "->", "::", "\"", "\\bwhile \\(true", "\\bfor \\(;;", "\\bprotected\\b", "\\brecord \\w+\\(",
            "static (?!final)\\w+(\\[\\])? \\w+( =|;)", "static \\{", "Exact\\b", "\\bdouble\\b", "\\bfloat\\b"};
        for (String word : forbidden) {
            Matcher found = Pattern.compile(word).matcher(code);
            check.due("the words " + word, found.find() ? 1 : 0, 0);
        }
    }

    private static void methods(String[] lines) {
        TreeSet<String> publicNames = new TreeSet<>();
        TreeSet<String> otherNames = new TreeSet<>();
        for (int line = 0; line < lines.length; line++) {
            Matcher method = METHOD.matcher(lines[line]);
            if (!method.matches()) {
                continue;
            }
            (("public ").equals(method.group(1)) ? publicNames : otherNames).add(method.group(3));
            check.due(method.group(3) + " has at most seven parameters", method.group(4).split(",").length > 7 ? 1 : 0, 0);
            String end = lines[line].replaceAll("\\S.*", "") + "}";
            int length = List.of(lines).subList(line, lines.length).indexOf(end);
            check.due(method.group(3) + " is short", length < 0 || length > 60 ? 1 : 0, 0);
        }
        check.due("public methods", publicNames.size(), 21);
        otherNames.retainAll(publicNames);
        check.due("names of public methods that others bear", otherNames.toString(), "[]");
    }
}
