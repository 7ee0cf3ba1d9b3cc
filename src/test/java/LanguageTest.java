import java.lang.reflect.Field;
import java.lang.reflect.Modifier;
import java.nio.file.Files;
import java.nio.file.Path;
import java.util.List;
import java.util.Set;
import java.util.TreeSet;
import java.util.regex.Matcher;
import java.util.regex.Pattern;

/** Those rules of ../shared/LANGUAGE.md that can be seen in the text of the program. */
public final class LanguageTest {
    private static final Check check = new Check();
    private static final int MOST_LINES = 60;
    private static final int MOST_CLASSES = 12;
    private static final int MOST_FIELDS = 20;
    private static final int MOST_PARAMETERS = 7;

    public static void main(String[] args) throws Exception {
        check.at("the language");
        String text = Files.readString(Path.of("src/main/java/PartitionBench.java"));
        String code = text.replaceAll("(?s)/\\*.*?\\*/", "").replaceAll("//[^\n]*", "");
        for (String no : new String[] {"->", "::", "\\bcatch\\b", "\\btry\\b", "\\bfinally\\b", "\\bassert\\b",
            "\\bsynchronized\\b", "\\brecord\\b", "\\bvar\\b", "\\bprotected\\b", "\\bequals\\b", "\\bhashCode\\b",
            "\\btoString\\b", "\\bgetMessage\\b", "Exact\\b", "\\bSystem\\.(?!arraycopy)", "\\bpackage\\b",
            "@", "\\bStrictMath\\b", "\\bRandom\\b", "\\bThread\\b", "while \\(true\\)", "for \\(;;\\)", "\"\\s*\\+",
            "\\+\\s*\"", "\\bstatic\\s*\\{"}) {
            check.due("no " + no, found(code, no), new TreeSet<String>());
        }
        check.due("imports", found(code, "import [^;]*;"), Set.of("import java.util.NoSuchElementException;"));
        Set<String> thrown = found(code, "throw new \\w+\\(\"[a-zA-Z0-9 ]+\"\\);");
        check.due("every throw is of the form", count(code, "\\bthrow\\b"),
            count(code, "throw new (Illegal(State|Argument)|IndexOutOfBounds|NoSuchElement)Exception\\(\"[a-zA-Z0-9 ]+\"\\);"));
        check.due("there are some", thrown.isEmpty(), false);
        check.due("ASCII", text.chars().allMatch(c -> c == '\n' || c >= 32 && c < 127), true);
        check.due("what is made is made in a field or a constructor", madeInMethods(code), new TreeSet<String>());
        sizes(code);
        fields(PartitionBench.class);
        for (Class<?> inside : PartitionBench.class.getDeclaredClasses()) {
            fields(inside);
        }
        check.end();
    }

    private static Set<String> found(String code, String pattern) {
        Set<String> found = new TreeSet<>();
        Matcher m = Pattern.compile(pattern).matcher(code);
        while (m.find()) {
            found.add(m.group());
        }
        return found;
    }

    private static int count(String code, String pattern) {
        return (int) Pattern.compile(pattern).matcher(code).results().count();
    }

    /** Everything made is counted: only exceptions are made by a call. */
    private static Set<String> madeInMethods(String code) {
        Set<String> made = new TreeSet<>();
        for (String line : code.split("\n")) {
            boolean isField = line.contains("final") && line.contains(" = new ");
            boolean isInConstructor = line.matches(" *(parts|past)\\[i\\] = new \\w+\\(i?\\);");
            if (line.contains("new ") && !line.contains("throw new ") && !isField && !isInConstructor) {
                made.add(line.trim());
            }
        }
        return made;
    }

    private static void fields(Class<?> type) {
        int fields = 0;
        for (Field f : type.getDeclaredFields()) {
            fields += Modifier.isStatic(f.getModifiers()) ? 0 : 1;
        }
        check.due("fields of " + type.getName() + ": " + fields, fields <= MOST_FIELDS, true);
    }

    private static void sizes(String code) {
        check.due("classes", count(code, "\\b(class|enum|interface)\\b") <= MOST_CLASSES, true);
        List<String> lines = List.of(code.split("\n"));
        for (int i = 0; i < lines.size(); i++) {
            String line = lines.get(i);
            String indent = line.replaceAll("\\S.*", "");
            if (line.matches(" {4}( {4})?[^ ].*\\) ?.*\\{") || line.matches(" {4}( {4})?[^ =]*\\(.*")) {
                int end = i;
                while (end < lines.size() - 1 && !lines.get(end).equals(indent + "}")) {
                    end++;
                }
                check.due("lines of " + line.trim(), end - i < MOST_LINES, true);
                check.due("parameters of " + line.trim(), line.split(",").length <= MOST_PARAMETERS, true);
            }
        }
    }
}
