import java.nio.file.Files;
import java.nio.file.Path;
import java.util.List;
import java.util.regex.Matcher;
import java.util.regex.Pattern;

/** What can be seen from the source of the rules in LANGUAGE.md. */
public final class LanguageTest {
    private static final List<String> LEFT_OUT = List.of(
        "\\b(throw|throws|try|catch|synchronized|assert|protected|package|native|strictfp|volatile)\\b",
        "->|::", "\\bstatic\\s*\\{", "Exact\\b", "\\bnew\\s+\\w+\\s*\\([^)]*\\)\\s*\\{",
        "\\bSystem\\.(?!arraycopy\\b)", "\\bArrays\\.(?!fill\\b|copyOf\\b|copyOfRange\\b)",
        "\\b(Random|Thread|File|Object|double|float)\\b", "while\\s*\\(true\\)", "for\\s*\\(;;\\)");

    public static void main(String[] args) throws Exception {
        String source = Files.readString(Path.of("src/main/java/DrumPeace.java"));
        String code = source.replaceAll("(?s)/\\*.*?\\*/", "").replaceAll("//[^\n]*", "");
        for (String words : LEFT_OUT) {
            Matcher m = Pattern.compile(words).matcher(code);
            Due.due("left out: " + words + (m.find() ? " in " + m.group() : ""), m.reset().find() ? 1 : 0, 0);
        }
        Matcher imports = Pattern.compile("import ([\\w.*]+);").matcher(code);
        while (imports.find()) {
            Due.due("import " + imports.group(1), imports.group(1).equals("java.util.Arrays") ? 0 : 1, 0);
        }
        int classes = 0;
        for (Matcher m = Pattern.compile("\\b(class|record|enum|interface)\\s+\\w+").matcher(code); m.find();) {
            classes++;
        }
        Due.due("more than twelve classes", classes > 12 ? classes : 0, 0);
        noPrivateMethodIsNamedLikeACall(code);
        Due.end();
    }

    private static void noPrivateMethodIsNamedLikeACall(String code) {
        Matcher calls = Pattern.compile("public int (\\w+)\\(").matcher(code);
        while (calls.find()) {
            String again = "(?<!public )\\b(int|boolean|void|Town|long)\\s+" + calls.group(1) + "\\s*\\(";
            Due.due("a second " + calls.group(1), Pattern.compile(again).matcher(code).find() ? 1 : 0, 0);
        }
    }
}
