import java.io.DataInputStream;
import java.io.IOException;
import java.io.InputStream;
import java.lang.reflect.Field;
import java.lang.reflect.Modifier;
import java.nio.file.Files;
import java.nio.file.Path;
import java.util.ArrayList;
import java.util.List;
import java.util.Set;
import java.util.regex.Matcher;
import java.util.regex.Pattern;

/** Rules of LANGUAGE.md that the text of the class shows, comments and texts left out, or its compiled files. */
public final class LanguageTest {
    private static final String[] NEVER = {
        "\\bimport\\b", "\\bpackage\\b", "->", "::", "\\btry\\b", "\\bcatch\\b", "\\bfinally\\b", "\\bthrow\\b",
        "\\bthrows\\b", "\\bsynchronized\\b", "\\bassert\\b", "\\bvar\\b", "\\bnative\\b", "\\bvolatile\\b",
        "\\bSystem\\.(out|err|in|exit|nano|current)", "\\bdouble\\b", "\\bfloat\\b", "Exact\\(", "@", "\\bprotected\\b",
        "\\bequals\\b", "\\bhashCode\\b", "\\btoString\\b", "\\bObject\\b", "static\\s*\\{"};

    /** All of the library that the class calls today; what it may call more, rule 4 tells. */
    private static final Set<String> LIBRARY = Set.of("java/lang/Object.<init>", "java/lang/Integer.bitCount",
            "java/lang/Math.min", "java/lang/Math.max", "java/lang/String.length", "java/lang/String.charAt");
    private static final int TEXT = 1, INT = 3, FLOAT = 4, LONG = 5, DOUBLE = 6, CLASS = 7, STRING = 8;
    private static final int FIELD = 9, METHOD = 10, INTERFACE_METHOD = 11, NAME_AND_TYPE = 12;

    public static void main(String[] args) throws IOException {
        String whole = Files.readString(Path.of("src/main/java/PlatformsLeave.java"));
        String code = whole.replaceAll("(?s)/\\*.*?\\*/", " ").replaceAll("//[^\n]*", " ")
                .replaceAll("\"[^\"\n]*\"", "\"\"");
        for (String never : NEVER) Due.is("found " + never, Pattern.compile(never).matcher(code).find() ? 1 : 0, 0);
        Due.is("signs of the text", whole.chars().allMatch(c -> c < 128) ? 0 : 1, 0);
        Due.is("classes at most twelve", count(code, "\\bclass\\s+\\w") <= 12 ? 0 : 1, 0);
        Due.is("classes inside are static", count(code, "\\bclass\\s+\\w") - count(code, "static final class\\s+\\w"), 1);
        methods(whole);
        fields(PlatformsLeave.class);
        library(PlatformsLeave.class);
        for (Class<?> inside : PlatformsLeave.class.getDeclaredClasses()) {
            fields(inside);
            library(inside);
        }
        Due.end();
    }

    private static int count(String code, String what) {
        Matcher matcher = Pattern.compile(what).matcher(code);
        int many = 0;
        while (matcher.find()) many++;
        return many;
    }

    /** A method's first line ends in "{" behind ")"; its last is a brace as far in as the first line. */
    private static void methods(String whole) {
        String[] lines = whole.split("\n");
        int found = 0;
        for (int i = 0; i < lines.length; i++) {
            Matcher head = Pattern.compile("^(    |        )(public |private |static |[a-z\\[\\]]+ |[A-Z]\\w* )*\\w+\\(([^)]*)\\) \\{$")
                    .matcher(lines[i]);
            if (!head.matches()) continue;
            found++;
            int end = i;
            while (!lines[end].equals(head.group(1) + "}")) end++;
            Due.is("lines of " + lines[i].trim(), end - i < 60 ? 0 : 1, 0);
            Due.is("parameters of " + lines[i].trim(), head.group(3).split(",").length <= 7 ? 0 : 1, 0);
        }
        Due.is("methods found", found > 60 ? 0 : 1, 0);
    }

    private static void fields(Class<?> one) {
        int fields = 0;
        for (Field field : one.getDeclaredFields()) if (!Modifier.isStatic(field.getModifiers())) fields++;
        Due.is("fields of " + one + " beside constants", fields <= 20 ? 0 : 1, 0);
    }

    private static void library(Class<?> one) throws IOException {
        for (String called : new Pool(one).called()) {
            boolean own = called.startsWith("PlatformsLeave");
            Due.is("called by " + one + ": " + called, own || LIBRARY.contains(called) ? 1 : 0, 1);
        }
    }

    /** The constants of a class file, which name each method that it calls; the JVM's specification, 4.4, has the form. */
    private static final class Pool {
        private final int[] sorts;
        private final int[] first;
        private final int[] second;
        private final String[] texts;

        Pool(Class<?> one) throws IOException {
            try (InputStream bytes = one.getResourceAsStream(one.getName() + ".class");
                    DataInputStream file = new DataInputStream(bytes)) {
                file.skipBytes(8);
                int size = file.readUnsignedShort();
                sorts = new int[size];
                first = new int[size];
                second = new int[size];
                texts = new String[size];
                for (int i = 1; i < size; i++) {
                    read(file, i);
                    if (sorts[i] == LONG || sorts[i] == DOUBLE) i++;
                }
            }
        }

        private void read(DataInputStream file, int i) throws IOException {
            sorts[i] = file.readUnsignedByte();
            switch (sorts[i]) {
                case TEXT: texts[i] = file.readUTF(); break;
                case INT: case FLOAT: file.readInt(); break;
                case LONG: case DOUBLE: file.readLong(); break;
                case CLASS: case STRING: first[i] = file.readUnsignedShort(); break;
                case FIELD: case METHOD: case INTERFACE_METHOD: case NAME_AND_TYPE:
                    first[i] = file.readUnsignedShort();
                    second[i] = file.readUnsignedShort();
                    break;
                default: throw new IOException("a constant of sort " + sorts[i] + ", as of a lambda or of texts joined by +");
            }
        }

        List<String> called() {
            List<String> all = new ArrayList<>();
            for (int i = 1; i < sorts.length; i++) {
                if (sorts[i] != METHOD && sorts[i] != INTERFACE_METHOD) continue;
                all.add(texts[first[first[i]]] + "." + texts[first[second[i]]]);
            }
            return all;
        }
    }
}
