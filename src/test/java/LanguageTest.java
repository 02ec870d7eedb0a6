import java.io.IOException;
import java.nio.file.Files;
import java.nio.file.Path;
import java.util.regex.Matcher;
import java.util.regex.Pattern;

/** Rules of LANGUAGE.md that can be seen in the text of the class, comments and texts left out. */
public final class LanguageTest {
    private static final String[] NEVER = {
        "\\bimport\\b", "\\bpackage\\b", "->", "::", "\\btry\\b", "\\bcatch\\b", "\\bfinally\\b", "\\bthrow\\b",
        "\\bthrows\\b", "\\bsynchronized\\b", "\\bassert\\b", "\\bvar\\b", "\\bnative\\b", "\\bvolatile\\b",
        "\\bSystem\\.(out|err|in|exit|nano|current)", "\\bdouble\\b", "\\bfloat\\b", "Exact\\(", "@", "\\bprotected\\b",
        "\\bequals\\b", "\\bhashCode\\b", "\\btoString\\b", "\\bObject\\b", "static\\s*\\{"};

    public static void main(String[] args) throws IOException {
        String whole = Files.readString(Path.of("src/main/java/PlatformsLeave.java"));
        String code = whole.replaceAll("(?s)/\\*.*?\\*/", " ").replaceAll("//[^\n]*", " ")
                .replaceAll("\"[^\"\n]*\"", "\"\"");
        for (String never : NEVER) Due.is("found " + never, Pattern.compile(never).matcher(code).find() ? 1 : 0, 0);
        Due.is("signs of the text", whole.chars().allMatch(c -> c < 128) ? 0 : 1, 0);
        Due.is("classes at most twelve", count(code, "\\bclass\\s+\\w") <= 12 ? 0 : 1, 0);
        Due.is("classes inside are static", count(code, "\\bclass\\s+\\w") - count(code, "static final class\\s+\\w"), 1);
        methods(whole);
        Due.end();
    }

    private static int count(String code, String what) {
        Matcher matcher = Pattern.compile(what).matcher(code);
        int many = 0;
        while (matcher.find()) many++;
        return many;
    }

    /** A method's first line ends in "{" behind ")"; its last is a brace as far in as the first line. */
    private static void methods(String whole) {
        String[] lines = whole.split("\n");
        int found = 0;
        for (int i = 0; i < lines.length; i++) {
            Matcher head = Pattern.compile("^(    |        )(public |private |static |[a-z\\[\\]]+ |[A-Z]\\w* )*\\w+\\(([^)]*)\\) \\{$")
                    .matcher(lines[i]);
            if (!head.matches()) continue;
            found++;
            int end = i;
            while (!lines[end].equals(head.group(1) + "}")) end++;
            Due.is("lines of " + lines[i].trim(), end - i < 60 ? 0 : 1, 0);
            Due.is("parameters of " + lines[i].trim(), head.group(3).split(",").length <= 7 ? 0 : 1, 0);
        }
        Due.is("methods found", found > 60 ? 0 : 1, 0);
    }
}
