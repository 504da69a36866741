import java.io.IOException;
import java.nio.file.Files;
import java.nio.file.Path;
import java.util.regex.Matcher;
import java.util.regex.Pattern;

/** Those rules of LANGUAGE.md that can be seen in the words of the program; run from the project's root. */
public final class LanguageTest {
    private static final String[] NOT_ALLOWED = {
        "\\b(throws?|try|catch|synchronized|assert|package|protected|native|instanceof)\\b",
        "->", "::", "static\\s*\\{", "Exact\\b", "\\bnew \\w+\\([^)]*\\) \\{",
        "\\bSystem\\.(?!arraycopy\\b)", "\\b(Random|Thread|hashCode|Object)\\b", "\\bMath\\.random\\b",
        "\\bimport (?!java\\.util\\.Arrays;)"
    };
    private static final Pattern METHOD =
        Pattern.compile("(?m)^( {4}| {8})(?! |class\\b)[\\w\\[\\] ]+\\(([^()]*)\\) \\{$");

    public static void main(String[] args) throws IOException {
        String source = Files.readString(Path.of("src/main/java/HeaderWays.java"));
        String program = source.replaceAll("(?s)/\\*.*?\\*/", "").replaceAll("//[^\\n]*", "");
        for (String words : NOT_ALLOWED) {
            Due.is("how often the program has <" + words + ">", count(program, words), 0);
        }
        signs(source);
        methods(program);
        Due.is("public classes", count(program, "\\bpublic [\\w ]*class\\b"), 1);
        Due.isTrue("some twelve classes at most", count(program, "\\bclass \\w+ \\{") <= 12);
        Due.end();
    }

    private static int count(String words, String what) {
        Matcher found = Pattern.compile(what).matcher(words);
        int all = 0;
        while (found.find()) {
            all++;
        }
        return all;
    }

    private static void signs(String source) {
        for (int i = 0; i < source.length(); i++) {
            char sign = source.charAt(i);
            if (sign > 126 || sign < 32 && sign != '\n') {
                Due.is("sign at " + i + " of the program", sign, ' ');
            }
        }
    }

    private static void methods(String words) {
        Matcher method = METHOD.matcher(words);
        int all = 0;
        while (method.find()) {
            all++;
            String close = "\n" + method.group(1) + "}";
            int end = words.indexOf(close, method.end());
            int lines = (int) words.substring(method.start(), Math.max(end, method.start())).lines().count();
            Due.isTrue("some sixty lines at most:" + method.group(), end > 0 && lines <= 60);
            Due.isTrue("seven parameters at most:" + method.group(), method.group(2).split(",").length <= 7);
        }
        Due.isTrue("methods are found: " + all, all > 90);
    }
}
