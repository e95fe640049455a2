import java.io.IOException;
import java.lang.reflect.Field;
import java.lang.reflect.Modifier;
import java.nio.file.Files;
import java.nio.file.Path;
import java.util.ArrayList;
import java.util.Arrays;
import java.util.HashSet;
import java.util.List;
import java.util.Set;
import java.util.regex.Matcher;
import java.util.regex.Pattern;

/** The rules of LANGUAGE.md that can be seen from the text of the class; run from the root. */
public final class LanguageTest {
    private static final Checks CHECKS = new Checks();
    private static final Path FILE = Path.of("src/main/java/SquareCode.java");
    private static final Set<String> LIBRARY = new HashSet<>(Arrays.asList(
            "Math.min", "Math.max", "Math.floorMod", "Integer.bitCount", "System.arraycopy"));
    private static final Pattern HEADER =
            Pattern.compile("( {4}| {8})(?:[\\w\\[\\]]+ )*(\\w+)\\((.*)\\) \\{");

    private final List<String> lines;
    private final String text;

    private LanguageTest(String source) {
        text = withoutComments(source);
        lines = Arrays.asList(text.split("\n", -1));
    }

    public static void main(String[] args) throws IOException {
        LanguageTest test = new LanguageTest(Files.readString(FILE));
        test.oneFileWithoutPackage();
        test.wordsThatAreRuledOut();
        test.namesOfTheLibrary();
        test.methods();
        test.objectsAreMadeInConstructors();
        classesAndFields();
        CHECKS.finish();
    }

    /** The lines stay where they were. */
    private static String withoutComments(String source) {
        Matcher comment = Pattern.compile("/\\*.*?\\*/|//[^\n]*", Pattern.DOTALL).matcher(source);
        return comment.replaceAll(found -> found.group().replaceAll("[^\n]", ""));
    }

    private void hasNot(String rule, String regex) {
        Matcher found = Pattern.compile(regex).matcher(text);
        CHECKS.isTrue("rule " + rule + ": no " + regex, !found.find());
    }

    /** "one file .. without a package line", and this one needs nothing from elsewhere */
    private void oneFileWithoutPackage() throws IOException {
        hasNot("of the file", "\\b(package|import)\\b");
        try (var files = Files.walk(Path.of("src/main"))) {
            CHECKS.due("files of the program", files.filter(Files::isRegularFile).count(), 1);
        }
    }

    /** Texts and exceptions have rules of their own; this class needs neither, so none is here. */
    private void wordsThatAreRuledOut() {
        hasNot("1", "\\bprotected\\b");
        hasNot("2", "->|::");
        hasNot("5", "\\bstatic\\s*\\{");
        hasNot("6", "\\b(throw|throws|try|catch|finally|synchronized|assert)\\b");
        hasNot("6", "\\b(equals|hashCode|toString)\\b");
        hasNot("10", "\"");
    }

    /** Rule 4: "only what stands here" */
    private void namesOfTheLibrary() {
        Set<String> known = new HashSet<>(Arrays.asList("SquareCode", "Math", "Integer", "System"));
        for (Class<?> inside : SquareCode.class.getDeclaredClasses()) {
            known.add(inside.getSimpleName());
        }
        Matcher name = Pattern.compile("\\b[A-Z][A-Za-z]*[a-z][A-Za-z]*\\b").matcher(text);
        while (name.find()) {
            CHECKS.isTrue("rule 4: " + name.group(), known.contains(name.group()));
        }
        Matcher call = Pattern.compile("\\b(Math|Integer|System)\\.\\w+").matcher(text);
        while (call.find()) {
            CHECKS.isTrue("rule 4: " + call.group(), LIBRARY.contains(call.group()));
        }
    }

    /** The line in which a block that begins in this line ends; its brace stands as far in. */
    private int endOf(int line, String indent) {
        int end = line;
        while (end < lines.size() && !lines.get(end).equals(indent + "}")) {
            end++;
        }
        return end;
    }

    /** The first lines of all methods and constructors. */
    private List<Integer> headers() {
        List<Integer> found = new ArrayList<>();
        for (int k = 0; k < lines.size(); k++) {
            if (HEADER.matcher(lines.get(k)).matches()) {
                found.add(k);
            }
        }
        return found;
    }

    private Matcher header(int line) {
        Matcher header = HEADER.matcher(lines.get(line));
        CHECKS.isTrue("a method in line " + (line + 1), header.matches());
        return header;
    }

    /** Rule 11: "A method takes at most seven parameters. Methods stay short (some sixty lines)" */
    private void methods() {
        CHECKS.isTrue("methods are found", headers().size() > 40);
        for (int line : headers()) {
            Matcher header = header(line);
            String name = header.group(2);
            CHECKS.isTrue("rule 11: parameters of " + name, header.group(3).split(",").length <= 7);
            CHECKS.isTrue("rule 11: lines of " + name, endOf(line, header.group(1)) - line <= 60);
        }
    }

    /** All calls live in one room, so a call makes nothing: only the constructors do. */
    private void objectsAreMadeInConstructors() {
        Set<Integer> within = new HashSet<>();
        for (int line : headers()) {
            Matcher header = header(line);
            if (Character.isUpperCase(header.group(2).charAt(0))) {
                for (int k = line; k <= endOf(line, header.group(1)); k++) {
                    within.add(k);
                }
            }
        }
        Pattern made = Pattern.compile("\\bnew\\b|\\.clone\\b|= *\\{");
        for (int k = 0; k < lines.size(); k++) {
            if (made.matcher(lines.get(k)).find()) {
                CHECKS.isTrue("made in line " + (k + 1), within.contains(k));
            }
        }
    }

    /** Rule 11: "at most some twelve classes, and a class some twenty fields" */
    private static void classesAndFields() {
        List<Class<?>> all = new ArrayList<>(Arrays.asList(SquareCode.class.getDeclaredClasses()));
        all.add(SquareCode.class);
        CHECKS.isTrue("rule 11: classes", all.size() <= 12);
        for (Class<?> one : all) {
            long fields = 0;
            for (Field field : one.getDeclaredFields()) {
                fields += Modifier.isStatic(field.getModifiers()) ? 0 : 1;
            }
            CHECKS.isTrue("rule 11: fields of " + one, fields <= 20);
        }
    }
}
