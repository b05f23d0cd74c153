import java.io.IOException;
import java.lang.reflect.Field;
import java.lang.reflect.Method;
import java.lang.reflect.Modifier;
import java.nio.file.Files;
import java.nio.file.Path;
import java.util.ArrayList;
import java.util.List;
import java.util.regex.Matcher;
import java.util.regex.Pattern;

/** The rules of LANGUAGE.md that can be asked of the class and of its file without reading it. */
public final class LanguageTest {
    private static final Checks CHECKS = new Checks();
    private static final Path FILE = Path.of("src", "main", "java", "CartoonHouse.java");
    private static final String LIBRARY = "Arrays\\.(copyOf|copyOfRange|fill)|System\\.arraycopy|Integer\\.bitCount"
            + "|Math\\.(abs|min|max|floorDiv|floorMod)|[A-Z_]+\\.length|Kind\\.([A-Z]+|values)";

    private static final Pattern HEAD = Pattern.compile("^( {4}| {8})(?!if|for|while|switch|do |\\}| )[\\w\\[\\]<> ]*\\(.*\\{$");

    public static void main(String[] args) throws IOException {
        String code = withoutTexts(Files.readString(FILE));
        oneFile(code);
        words(code);
        library(code);
        methodsAreShort(code);
        List<Class<?>> classes = new ArrayList<>(List.of(CartoonHouse.class.getDeclaredClasses()));
        for (Class<?> inside : classes) {
            classesInside(inside);
        }
        classes.add(CartoonHouse.class);
        CHECKS.due("rule 11: some twelve classes", 1, classes.size() <= 12 ? 1 : 0);
        for (Class<?> one : classes) {
            fields(one);
            parameters(one);
        }
        CHECKS.end();
    }

    private static String withoutTexts(String source) {
        return source.replaceAll("(?s)/\\*.*?\\*/", "").replaceAll("//[^\\n]*", "").replaceAll("\"[^\"\\n]*\"", "\"\"")
                .replaceAll("'[^'\\n]+'", "0");
    }

    private static int count(String code, String pattern) {
        int many = 0;
        for (Matcher found = Pattern.compile(pattern).matcher(code); found.find();) {
            many++;
        }
        return many;
    }

    private static void oneFile(String code) throws IOException {
        CHECKS.due("no package line", 0, count(code, "\\bpackage\\b"));
        CHECKS.due("rule 4: what is imported", 0, count(code, "\\bimport\\b(?! java\\.util\\.(Arrays|ArrayList|List);)"));
        try (var files = Files.walk(Path.of("src", "main"))) {
            CHECKS.due("one file", 1, (int) files.filter(Files::isRegularFile).count());
        }
    }

    private static void words(String code) {
        String[] words = {"throw", "throws", "try", "catch", "finally", "synchronized", "assert", "protected", "static \\{",
            "volatile", "transient", "native", "var", "yield", "Thread", "Random", "Object", "hashCode", "toString", "equals"};
        for (String word : words) {
            CHECKS.due("rules 2 to 6, the word " + word, 0, count(code, "\\b" + word + (word.endsWith("{") ? "" : "\\b")));
        }
        CHECKS.due("rule 2: a lambda", 0, count(code, "->"));
        CHECKS.due("rule 2: a method reference", 0, count(code, "::"));
        CHECKS.due("rule 4: names that end in Exact", 0, count(code, "Exact\\b"));
        CHECKS.due("rule 6: casts among classes", 0, count(code, "\\([A-Z]\\w*(\\[\\])*\\)\\s*[\\w(]"));
        CHECKS.due("rule 10: texts joined by +", 0, count(code, "\"\" *\\+|\\+ *\"\""));
        CHECKS.due("rule 9: loops without an end", 0, count(code, "while \\(true\\)|for \\([^;]*;\\s*;"));
    }

    private static void library(String code) {
        Matcher used = Pattern.compile("\\b[A-Z]\\w*\\.\\w+").matcher(code);
        while (used.find()) {
            CHECKS.due("rule 4: " + used.group(), 1, used.group().matches(LIBRARY) ? 1 : 0);
        }
    }

    /** Of a method the head and the end stand at the same depth, four or eight blanks. */
    private static void methodsAreShort(String code) {
        String[] lines = code.split("\\R");
        int heads = 0;
        for (int k = 0; k < lines.length; k++) {
            Matcher head = HEAD.matcher(lines[k]);
            if (head.matches()) {
                heads++;
                int end = k;
                while (end < lines.length && !lines[end].equals(head.group(1) + "}")) {
                    end++;
                }
                CHECKS.due("rule 11: some sixty lines:" + lines[k], 1, end - k < 60 ? 1 : 0);
            }
        }
        CHECKS.due("heads of methods are found", 1, heads > 51 ? 1 : 0);
    }

    private static void classesInside(Class<?> inside) {
        int modifiers = inside.getModifiers();
        boolean isHidden = !Modifier.isPublic(modifiers) && !Modifier.isProtected(modifiers);
        CHECKS.due("rule 1: " + inside + " can't be seen", 1, isHidden ? 1 : 0);
        CHECKS.due("rule 2: " + inside + " is static", 1, Modifier.isStatic(modifiers) ? 1 : 0);
        CHECKS.due("rule 2: " + inside + " has no classes inside", 0, inside.getDeclaredClasses().length);
        for (Field field : inside.getDeclaredFields()) {
            boolean isPlain = field.getType().isPrimitive() || field.getType() == String.class || field.isEnumConstant();
            if (inside.isEnum() && !field.isSynthetic()) {
                CHECKS.due("rule 2: an enum's " + field, 1, isPlain ? 1 : 0);
            }
        }
    }

    private static void fields(Class<?> one) {
        int many = 0;
        for (Field field : one.getDeclaredFields()) {
            if (!Modifier.isStatic(field.getModifiers())) {
                many++;
            } else if (!Modifier.isFinal(field.getModifiers())) {
                CHECKS.due("rule 5", "final", field.toString());
            }
            boolean isDeep = field.getType().getName().startsWith("[[[");
            CHECKS.due("rule 3: arrays of two dimensions at most, " + field, 0, isDeep ? 1 : 0);
        }
        CHECKS.due("rule 11: some twenty fields of " + one, 1, many <= 20 ? 1 : 0);
    }

    private static void parameters(Class<?> one) {
        for (Method method : one.getDeclaredMethods()) {
            CHECKS.due("rule 11: at most seven, " + method, 1, method.getParameterCount() <= 7 ? 1 : 0);
        }
    }
}
