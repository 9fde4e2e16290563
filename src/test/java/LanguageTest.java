import java.lang.reflect.Executable;
import java.lang.reflect.Field;
import java.lang.reflect.Modifier;
import java.nio.file.Files;
import java.nio.file.Path;
import java.util.ArrayList;
import java.util.List;
import java.util.Set;
import java.util.regex.Matcher;
import java.util.regex.Pattern;

/** What can be seen of the rules in LANGUAGE.md, from the source and from the compiled class. */
public final class LanguageTest {
    private static final int MOST_CLASSES = 12, MOST_FIELDS = 20, MOST_PARAMETERS = 7, MOST_LINES = 60;
    private static final List<String> LEFT_OUT = List.of(
        "\\b(throw|throws|try|catch|synchronized|assert|protected|package|native|strictfp|volatile)\\b",
        "->|::", "\\bstatic\\s*\\{", "Exact\\b", "\\bnew\\s+\\w+\\s*\\([^)]*\\)\\s*\\{",
        "\\bSystem\\.(?!arraycopy\\b)", "\\bArrays\\.(?!fill\\b|copyOf\\b|copyOfRange\\b)",
        "\\b(Random|Thread|File|Object|double|float)\\b", "while\\s*\\(true\\)", "for\\s*\\(;;\\)",
        "\\b(hashCode|toString|equals|getClass)\\b", "[^\\x00-\\x7f]");
    private static final Set<String> LIBRARY =
        Set.of("Arrays", "ArrayList", "List", "Math", "Integer", "Long", "String", "StringBuilder", "System");
    private static final Set<String> OF_STATIC_FIELDS =
        Set.of("int", "long", "boolean", "char", "String", "int[]", "long[]", "char[]", "byte[]");

    public static void main(String[] args) throws Exception {
        String source = Files.readString(Path.of("src/main/java/DrumPeace.java"));
        String code = source.replaceAll("(?s)/\\*.*?\\*/", "").replaceAll("//[^\n]*", "");
        nothingThatIsLeftOut(code);
        onlyTheLibraryThatIsTold(code);
        noPrivateMethodIsNamedLikeACall(code);
        methodsAreShort(source);
        List<Class<?>> classes = new ArrayList<>(List.of(DrumPeace.class));
        classes.addAll(List.of(DrumPeace.class.getDeclaredClasses()));
        Due.due("more than twelve classes", classes.size() > MOST_CLASSES ? classes.size() : 0, 0);
        for (Class<?> c : classes) {
            isAnAllowedClass(c);
        }
        Due.end();
    }

    private static void nothingThatIsLeftOut(String code) {
        for (String words : LEFT_OUT) {
            Matcher m = Pattern.compile(words).matcher(code);
            Due.due("left out: " + words + (m.find() ? " in " + m.group() : ""), m.reset().find() ? 1 : 0, 0);
        }
    }

    private static void onlyTheLibraryThatIsTold(String code) {
        for (Matcher m = Pattern.compile("import ([\\w.*]+);").matcher(code); m.find();) {
            boolean told = Set.of("java.util.Arrays", "java.util.ArrayList", "java.util.List").contains(m.group(1));
            Due.due("import " + m.group(1), told ? 0 : 1, 0);
        }
        String own = " ";
        for (Class<?> c : DrumPeace.class.getDeclaredClasses()) {
            own += c.getSimpleName() + " ";
        }
        for (Matcher m = Pattern.compile("\\b[A-Z]\\w*[a-z]\\w*\\b").matcher(code); m.find();) {
            boolean told = LIBRARY.contains(m.group()) || own.contains(" " + m.group() + " ")
                || m.group().equals("DrumPeace");
            Due.due("a class that is not told: " + m.group(), told ? 0 : 1, 0);
        }
    }

    private static void noPrivateMethodIsNamedLikeACall(String code) {
        Matcher calls = Pattern.compile("public int (\\w+)\\(").matcher(code);
        while (calls.find()) {
            String again = "(?<!public )\\b(int|boolean|void|Town|long)\\s+" + calls.group(1) + "\\s*\\(";
            Due.due("a second " + calls.group(1), Pattern.compile(again).matcher(code).find() ? 1 : 0, 0);
        }
    }

    /** A method begins with a line that ends in ") {" and ends with the brace of the same indent. */
    private static void methodsAreShort(String source) {
        Matcher m = Pattern.compile("(?m)^((?:    ){1,2})(?=\\S)[^;=\n]*\\) \\{\n(?s:.*?)^\\1\\}").matcher(source);
        int methods = 0;
        while (m.find()) {
            methods++;
            long lines = m.group().lines().count();
            Due.due("lines of " + m.group().lines().findFirst().orElse("").trim(), lines > MOST_LINES ? lines : 0, 0);
        }
        Due.due("methods are found", methods > 35 ? 1 : 0, 1);
    }

    private static void isAnAllowedClass(Class<?> c) {
        String name = c.getSimpleName();
        int modifiers = c.getModifiers();
        boolean inside = Modifier.isStatic(modifiers) && !Modifier.isPublic(modifiers);
        Due.due("a class inside is static and not public: " + name, c == DrumPeace.class || inside ? 1 : 0, 1);
        Due.due("no class inside " + name, c == DrumPeace.class ? 0 : c.getDeclaredClasses().length, 0);
        int fields = 0;
        for (Field f : c.getDeclaredFields()) {
            if (Modifier.isStatic(f.getModifiers())) {
                boolean constant = Modifier.isFinal(f.getModifiers())
                    && OF_STATIC_FIELDS.contains(f.getType().getSimpleName());
                Due.due("a constant: " + name + "." + f.getName(), constant ? 1 : 0, 1);
            } else {
                fields++;
            }
        }
        Due.due("fields of " + name, fields > MOST_FIELDS ? fields : 0, 0);
        List<Executable> all = new ArrayList<>(List.of(c.getDeclaredMethods()));
        all.addAll(List.of(c.getDeclaredConstructors()));
        for (Executable e : all) {
            int parameters = e.getParameterCount();
            Due.due("parameters of " + e.getName(), parameters > MOST_PARAMETERS ? parameters : 0, 0);
        }
    }
}
