import java.io.IOException;
import java.lang.reflect.Method;
import java.lang.reflect.Modifier;
import java.nio.file.Files;
import java.nio.file.Path;
import java.util.HashSet;
import java.util.List;
import java.util.Set;
import java.util.function.Consumer;
import java.util.regex.Matcher;
import java.util.regex.Pattern;

/** The class's text keeps to those rules of LANGUAGE.md that can be read off it. */
public final class LanguageTest {
    private static final Path SOURCE = Path.of("src/main/java/ClauseYard.java");
    private static final Set<String> LIBRARY = Set.of("Math.min", "Long.bitCount", "Long.numberOfTrailingZeros");
    private static final Set<String> OWN = Set.of("Search.nextBlock");
    private static final int METHOD_LINES = 60;
    private static final int PARAMETERS = 7;
    private static final int FIELDS = 20;
    private static final int CLASSES = 12;

    private static int wrong = 0;

    public static void main(String[] args) throws IOException {
        String text = withoutCommentsAndTexts(Files.readString(SOURCE));
        imports(text);
        words(text);
        loops(text);
        library(text);
        madeOnce(text);
        exceptions(text);
        methodsAreShort(text);
        classesAreSmall();
        namesAreApart();
        System.out.println(wrong == 0 ? "the text keeps to the rules" : "the text does not keep to the rules");
        if (wrong != 0) {
            System.exit(1);
        }
    }

    private static void check(boolean holds, String what) {
        if (!holds) {
            wrong++;
            System.out.println("wrong: " + what);
        }
    }

    private static String withoutCommentsAndTexts(String source) {
        return source.replaceAll("(?s)/\\*.*?\\*/", "").replaceAll("//[^\n]*", "").replaceAll("\"[^\"\n]*\"", "\"\"");
    }

    private static void each(String pattern, String text, Consumer<Matcher> hold) {
        Matcher found = Pattern.compile(pattern).matcher(text);
        while (found.find()) {
            hold.accept(found);
        }
    }

    private static void imports(String text) {
        each("(?m)^ *(import|package) .*$", text, found -> check(
            found.group().equals("import java.util.NoSuchElementException;"), "rule 4: " + found.group()));
        each("\\bjavax?\\.[\\w.]+", text, found -> check(
            found.group().equals("java.util.NoSuchElementException"), "rule 4: " + found.group()));
    }

    /** Rules 2, 3, 6, 10 and 13: what the class has no use for at all. */
    private static void words(String text) {
        each("->|::|\\b(double|float|try|catch|finally|synchronized|assert|instanceof|record|equals|hashCode|toString"
            + "|String|Object|System|Thread|Random)\\b", text,
            found -> check(false, "rules 2, 3, 6, 10, 13: " + found.group()));
        each("[/%]", text, found -> check(false, "rule 7, a divisor: " + found.group()));
        each("\\bstatic\\s*\\{", text, found -> check(false, "rule 5, a static initialiser"));
    }

    /** Rule 9: each loop counts one counter towards a bound. */
    private static void loops(String text) {
        each("\\b(while|do)\\b|\\bfor\\b(?! \\([^;]*;[^;]*;[^)]*\\))", text,
            found -> check(false, "rule 9, no counter: " + found.group()));
        each("for \\(int (\\w+) = [^;]*;([^;]*);([^)]*)\\)", text, found -> check(
            found.group(2).matches(".*\\b" + found.group(1) + " (<|>=) \\w.*")
                && found.group(3).matches(" " + found.group(1) + "(\\+\\+|--)"),
            "rule 9, no counter: " + found.group()));
    }

    private static void library(String text) {
        each("\\b([A-Z][a-z]\\w*)\\.(\\w+)\\(", text, found -> {
            String call = found.group(1) + "." + found.group(2);
            check(LIBRARY.contains(call) || OWN.contains(call), "rule 4: " + call);
        });
    }

    /** Rule 12, and the document: all memory is made once, so no method makes any but to throw it. */
    private static void madeOnce(String text) {
        each("(?m)^.*\\bnew\\b.*$", text, found -> check(
            found.group().matches(" *throw new .*") || found.group().matches(" *private final .* = new .*;"),
            "memory made by a method: " + found.group()));
    }

    private static void exceptions(String text) {
        each("\\bthrow\\b[^;]*;", text, found -> check(
            found.group().matches("throw new (IllegalArgument|IllegalState|NoSuchElement)Exception\\(\"\"\\);"),
            "rule 6: " + found.group()));
        each("(?s)public ClauseYard\\(\\) \\{.*?\\n    \\}", text,
            found -> check(!found.group().contains("throw"), "rule 6, a throw in a constructor"));
    }

    private static void methodsAreShort(String text) {
        List<String> lines = text.lines().toList();
        for (int i = 0; i < lines.size(); i++) {
            Matcher head = Pattern.compile("( +)[\\w<\\[].*\\).*\\{").matcher(lines.get(i));
            if (head.matches()) {
                int end = lines.subList(i, lines.size()).indexOf(head.group(1) + "}");
                check(end < METHOD_LINES, "rule 11, a long method: " + lines.get(i));
            }
        }
    }

    private static void classesAreSmall() {
        Class<?>[] inside = ClauseYard.class.getDeclaredClasses();
        check(inside.length < CLASSES, "rule 11, many classes");
        classIsSmall(ClauseYard.class);
        for (Class<?> one : inside) {
            classIsSmall(one);
        }
    }

    private static void classIsSmall(Class<?> one) {
        long fields = List.of(one.getDeclaredFields()).stream()
            .filter(field -> !Modifier.isStatic(field.getModifiers())).count();
        check(fields <= FIELDS, "rule 11, many fields in " + one.getSimpleName());
        for (Method method : one.getDeclaredMethods()) {
            check(method.getParameterCount() <= PARAMETERS, "rule 11, many parameters: " + method.getName());
        }
    }

    /** Rule 1: no private method bears the name of a public one; here no two methods bear one name at all. */
    private static void namesAreApart() {
        Set<String> names = new HashSet<>();
        for (Method method : ClauseYard.class.getDeclaredMethods()) {
            check(names.add(method.getName()), "rule 1, two methods " + method.getName());
        }
        for (Class<?> inside : ClauseYard.class.getDeclaredClasses()) {
            for (Method method : inside.getDeclaredMethods()) {
                check(names.add(method.getName()), "rule 1, two methods " + method.getName());
            }
        }
    }
}
