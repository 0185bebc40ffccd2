import java.io.IOException;
import java.lang.reflect.Field;
import java.nio.charset.StandardCharsets;
import java.nio.file.Files;
import java.nio.file.Path;
import java.util.Map;
import java.util.Set;
import java.util.TreeMap;
import java.util.regex.Matcher;
import java.util.regex.Pattern;

/**
 * What of ../shared/LANGUAGE.md can be seen in the source of the program. It asks for less than the
 * rules leave (the program needs no class inside, no list, no while): a change that needs more of
 * them changes this test too.
 */
public final class LanguageTest {
    private static final int LONGEST_METHOD = 60;
    private static final int DEEPEST_CALLS = 8;

    /** Rules 4, 6, 9 and 13: none of this stands in the program. */
    private static final String[] RULED_OUT = {
        "import ", "package ", "->", "::", "try ", "catch", "finally", "synchronized", "assert ", "instanceof",
        "Exact(", "System.", "Random", "Thread", "equals(", "hashCode", "toString", "while (", "do {",
        " / ", " % ", "static {", "double", "float",
    };

    private static final Set<String> LIBRARY = Set.of("Math.max", "Math.abs");
    private static final Set<String> TYPES = Set.of("int", "boolean", "int[]", "boolean[]");

    private static final Pattern METHOD = Pattern.compile("(?m)^    (?:public|private)(?: static)?(?: (?:int|boolean|void))? (\\w+)\\(([^)]*)\\)[^;{]*\\{\n");
    private static final Pattern QUALIFIED = Pattern.compile("\\b([A-Z][A-Za-z]*\\.\\w+)");
    private static final Pattern THROW = Pattern.compile("throw [^;]*;");
    private static final Pattern LOOP = Pattern.compile("\\bfor \\(.*\\) \\{");

    public static void main(String[] args) throws IOException {
        String source = Files.readString(Path.of("src/main/java/BagHall.java"), StandardCharsets.UTF_8);
        String code = source.replaceAll("(?s)/\\*.*?\\*/", "").replaceAll("//[^\n]*", "");
        signs(source);
        words(code);
        exceptions(code);
        loops(code);
        types();
        methods(methodsOf(code));
        Check.end("LanguageTest");
    }

    private static void signs(String source) {
        for (char sign : source.toCharArray()) {
            Check.isTrue("a sign of the program is 1 to 127", sign >= 1 && sign <= 127);
        }
    }

    private static void words(String code) {
        String withoutTexts = code.replaceAll("\"[^\"\n]*\"", "\"\"");
        for (String word : RULED_OUT) {
            Check.isFalse("the program holds " + word, withoutTexts.contains(word));
        }
        Matcher qualified = QUALIFIED.matcher(withoutTexts);
        while (qualified.find()) {
            Check.isTrue(qualified.group(1) + " is of the library", LIBRARY.contains(qualified.group(1)));
        }
    }

    /** Rule 6: a new exception with a written text. */
    private static void exceptions(String code) {
        Matcher thrown = THROW.matcher(code);
        int found = 0;
        while (thrown.find()) {
            found++;
            boolean isPlain = thrown.group().matches("throw new (IllegalState|IllegalArgument|IndexOutOfBounds)Exception\\(\"[^\"]*\"\\);");
            Check.isTrue(thrown.group() + " is a new exception with a written text", isPlain);
        }
        Check.isTrue("throws are found", found > 0);
    }

    /** Rule 9: each loop is a counter against a bound. */
    private static void loops(String code) {
        Matcher loop = LOOP.matcher(code);
        int found = 0;
        while (loop.find()) {
            found++;
            boolean isCounted = loop.group().matches("for \\(int (\\w+) = [^;]+; \\1 (< [^;&|]+; \\1\\+\\+|>= 0; \\1--)\\) \\{");
            Check.isTrue(loop.group() + " is a counter against a bound", isCounted);
        }
        Check.isTrue("loops are found", found > 0);
    }

    /** Rules 3 and 5: numbers, and rows of them that belong to one object. */
    private static void types() {
        for (Field field : BagHall.class.getDeclaredFields()) {
            Check.isTrue(field.getName() + " is of a plain type", TYPES.contains(field.getType().getSimpleName()));
        }
    }

    private static Map<String, String> methodsOf(String code) {
        Map<String, String> bodies = new TreeMap<>();
        Matcher method = METHOD.matcher(code);
        while (method.find()) {
            String body = code.substring(method.end(), code.indexOf("\n    }", method.end() - 1) + 1);
            Check.isTrue("only one method is named " + method.group(1), bodies.put(method.group(1), body) == null);
            Check.isTrue(method.group(1) + " has at most seven parameters", method.group(2).split(",").length <= 7);
        }
        Check.equal("the methods found, with the constructor", BagHall.class.getDeclaredMethods().length + 1, bodies.size());
        return bodies;
    }

    /** Rules 6, 8 and 11: the constructor throws nothing, no method is long, none calls itself, nor deep. */
    private static void methods(Map<String, String> bodies) {
        Check.isFalse("the constructor throws", bodies.getOrDefault("BagHall", "throw").contains("throw"));
        for (String name : bodies.keySet()) {
            Check.isTrue(name + " is short", bodies.get(name).split("\n").length <= LONGEST_METHOD);
            Check.isTrue("the calls of " + name + " go at most eight deep", depth(bodies, name, 1) <= DEEPEST_CALLS);
        }
    }

    /** How deep calls go from a method on; what calls itself comes out beyond the deepest. */
    private static int depth(Map<String, String> bodies, String name, int above) {
        int deepest = above;
        for (String called : bodies.keySet()) {
            if (above <= DEEPEST_CALLS && Pattern.compile("\\b" + called + "\\(").matcher(bodies.get(name)).find()) {
                deepest = Math.max(deepest, depth(bodies, called, above + 1));
            }
        }
        return deepest;
    }
}
