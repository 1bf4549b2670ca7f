import java.nio.file.Files;
import java.nio.file.Path;
import java.util.regex.Matcher;
import java.util.regex.Pattern;

/** What the text of the program alone tells of LANGUAGE.md: rules 2 and 4 to 6, and the length of methods (rule 11). */
public final class LanguageTest {
    private static final String[] BANNED = {
        "\\b(?:throw|throws|try|catch|finally|synchronized|assert|volatile|transient|native)\\b", "->", "::", "@", "\\bimport\\b", "\\bpackage\\b",
        "\\b(?:hashCode|toString|equals|Object|Random|Thread|String)\\b", "Exact\\b", "\\bstatic\\s*\\{", "\\bSystem\\.(?!arraycopy\\b)",
        "\\bMath\\.(?!min\\b|max\\b|abs\\b|floorMod\\b|floorDiv\\b)", "\\bstatic (?!final |class )(?:int|long|char|boolean|byte)(?:\\[\\])? \\w+ *[=;]",
    };
    private static final int LONGEST = 60;

    public static void main(String[] args) throws Exception {
        String text = withoutComments(Files.readString(Path.of("src/main/java/JettyHoses.java")));
        Check.due("the program is read", text.contains("public final class JettyHoses") ? 1 : 0, 1);
        for (String banned : BANNED) {
            Matcher matcher = Pattern.compile(banned).matcher(text);
            boolean isFound = matcher.find();
            Check.due("banned is " + banned + (isFound ? ", at " + text.substring(matcher.start()).lines().findFirst().get() : ""), isFound ? 1 : 0, 0);
        }
        dueShortMethods(text);
        Check.end("LanguageTest");
    }

    private static String withoutComments(String text) {
        return text.replaceAll("(?s)/\\*.*?\\*/", "").replaceAll("//[^\n]*", "");
    }

    /** A method begins at its name, by one or two steps of indentation, and ends at a brace of the same. */
    private static void dueShortMethods(String text) {
        Pattern method = Pattern.compile("(?ms)^( {4}| {8})(?=\\S)[\\w\\[\\] ]+\\([^)]*\\) \\{\n(.*?)^\\1\\}");
        Matcher matcher = method.matcher(text);
        int many = 0;
        while (matcher.find()) {
            many++;
            long lines = matcher.group(2).lines().count();
            Check.due("too long: " + matcher.group().lines().findFirst().get(), lines <= LONGEST ? 1 : 0, 1);
        }
        Check.due("methods are found", many > 60 ? 1 : 0, 1);
    }
}
