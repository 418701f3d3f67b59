import java.io.IOException;
import java.nio.file.Files;
import java.nio.file.Path;
import java.util.regex.Matcher;
import java.util.regex.Pattern;

/** Some rules of LANGUAGE.md that a look at the text can hold: what may not stand in the program. */
public final class LanguageTest {
    private static final String[] RULED_OUT = {
        "->", "::", "\\bsynchronized\\b", "\\bfinally\\b", "\\bassert\\b", "\\btry\\b", "\\bcatch\\b", "\\bfloat\\b",
        "\\bdouble\\b", "\\binstanceof\\b", "\\bvar\\b", "\\bObject\\b", "\\.equals\\(", "\\bnull\\b", "Exact\\(",
        "\\bSystem\\.(?!arraycopy\\()", "\\bMath\\.(?!max\\(|min\\()", "\\bInteger\\.(?!bitCount\\()",
        "\"\\s*\\+", "\\+\\s*\"", "\\bstatic \\{", "(?m)^\\s+(public|protected) class", "\\bfor \\(;;", "while \\(true",
        "[^\\x00-\\x7f]", "(?m)^import (?!java\\.util\\.NoSuchElementException;)", "(?m)^package ",
    };
    private static final int LONGEST_METHOD = 60;

    public static void main(String[] args) throws IOException {
        Check check = new Check();
        String source = Files.readString(Path.of("src/main/java/WornSkin.java"));
        String code = source.replaceAll("(?s)/\\*.*?\\*/", "").replaceAll("//[^\\n]*", "");
        for (String rule : RULED_OUT) {
            Matcher found = Pattern.compile(rule).matcher(code);
            String where = found.find() ? code.substring(found.start(), Math.min(code.length(), found.end() + 30)) : "";
            check.due("ruled out is " + rule + ": " + where, true, where.isEmpty());
        }
        check.due("throws only in rests", 2, count(code, "\\bthrow new NoSuchElementException\\(\\);"));
        check.due("no other throw", 2, count(code, "\\bthrow\\b"));
        check.due("at most twelve classes", true, count(code, "\\bclass \\w+ \\{") <= 12);
        checkMethods(check, code.split("\n"));
        check.end("LanguageTest");
    }

    private static int count(String code, String what) {
        Matcher found = Pattern.compile(what).matcher(code);
        int times = 0;
        while (found.find()) {
            times++;
        }
        return times;
    }

    /** A method begins with a line that is indented by 4 or 8 and ends in ") {", and ends with its "}". */
    private static void checkMethods(Check check, String[] lines) {
        for (int i = 0; i < lines.length; i++) {
            Matcher head = Pattern.compile("^(    |        )[a-zA-Z].*\\((.*)\\).*\\{$").matcher(lines[i]);
            if (head.find() && !lines[i].contains(" class ")) {
                int end = i;
                while (end < lines.length && !lines[end].equals(head.group(1) + "}")) {
                    end++;
                }
                check.due("so long is " + lines[i].trim(), true, end - i < LONGEST_METHOD);
                check.due("parameters of " + lines[i].trim(), true, head.group(2).split(",").length <= 7);
            }
        }
    }
}
