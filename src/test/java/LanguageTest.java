import java.io.IOException;
import java.nio.file.Files;
import java.nio.file.Path;
import java.util.List;
import java.util.regex.Matcher;
import java.util.regex.Pattern;

/** The rules of LANGUAGE.md that a look at the text can tell. Run from the project's root. */
public final class LanguageTest {
    private static final List<String> FORBIDDEN = List.of(
        "\\b(throw|throws|try|catch|finally|synchronized|assert|package|import|protected|volatile|native)\\b",
        "->", "::", "Exact\\b", "\\bSystem\\.(?!arraycopy)", "\\bThread\\b", "\\bRandom\\b", "\\bstatic\\s*\\{");

    public static void main(String[] args) throws IOException {
        String text = Files.readString(Path.of("src/main/java/TowersAndWaves.java"));
        String code = text.replaceAll("(?s)/\\*.*?\\*/", "").replaceAll("//[^\n]*", "");
        for (String pattern : FORBIDDEN) {
            Matcher m = Pattern.compile(pattern).matcher(code);
            Check.that("the program has no " + pattern, !m.find());
        }
        Matcher classes = Pattern.compile("\\b(class|interface|enum|record)\\s+[A-Z]").matcher(code);
        int count = 0;
        while (classes.find()) {
            count++;
        }
        Check.that("some twelve classes at the most: " + count, count <= 12);
        Matcher inside = Pattern.compile("(?m)^ +(.*)\\bclass\\s+[A-Z]").matcher(code);
        while (inside.find()) {
            Check.that("a class inside is static: " + inside.group(), inside.group(1).contains("static"));
        }
        Check.that("characters 0 to 255 alone", text.chars().allMatch(c -> c <= 255));
        methodsAreShort(code);
        Check.end();
    }

    /** A method's body ends at the first line that closes it with the indent at which it began. */
    private static void methodsAreShort(String code) {
        String[] lines = code.split("\n");
        for (int i = 0; i < lines.length; i++) {
            Matcher head = Pattern.compile("^( +)[\\w\\[\\] ]+\\((.*)\\) \\{$").matcher(lines[i]);
            if (!head.find() || lines[i].matches(" +(if|for|while|switch) .*")) {
                continue;
            }
            int end = i;
            while (end < lines.length - 1 && !lines[end].equals(head.group(1) + "}")) {
                end++;
            }
            Check.that("sixty lines at the most: " + lines[i].trim(), end - i <= 60);
            Check.that("seven parameters at the most: " + lines[i].trim(), head.group(2).split(",").length <= 7);
        }
    }
}
