import java.io.IOException;
import java.nio.file.Files;
import java.nio.file.Path;
import java.util.ArrayList;
import java.util.LinkedHashMap;
import java.util.List;
import java.util.Map;
import java.util.Set;
import java.util.regex.Matcher;
import java.util.regex.Pattern;

/** Looks in the source for what LANGUAGE.md rules out, as far as its text shows it. */
public final class LanguageTest {
    private static final Path SOURCE = Path.of("src/main/java/InventedBirthdays.java");
    private static final int MOST_LINES = 60;
    private static final int DEEPEST = 8;
    private static final String[] RULED_OUT = {
        "\\bpackage\\b", "\\btry\\b", "\\bcatch\\b", "\\bfinally\\b", "\\bsynchronized\\b", "\\bassert\\b", "\\binstanceof\\b",
        "->", "::", "\\bvar\\b", "\\bprotected\\b", "\\bnative\\b", "\\bObject\\b", "\\?\\s*extends", "@",
        "\"\"\\s*\\+", "\\+\\s*\"\"", "\\+=\\s*\"\"", "\\bstatic\\s*\\{", "Exact\\b", "\\bhashCode\\b", "\\btoString\\b", "\\.equals\\b",
    };
    private static final Set<String> THROWN = Set.of("IllegalStateException", "IllegalArgumentException", "IndexOutOfBoundsException");
    private static final Set<String> LIBRARY = Set.of("Math.min", "Math.max", "System.arraycopy", "Arrays.fill");
    private static final Pattern METHOD = Pattern.compile("(?m)^( {4}| {8})(?:(?:public|private|static) )*(?:[a-zA-Z\\[\\]]+ )?([a-zA-Z]+)\\(([^)]*)\\)(?: throws [a-zA-Z, ]+)? \\{\\n(.*?)^\\1\\}", Pattern.DOTALL);

    private static int wrong;

    public static void main(String[] args) throws IOException {
        String source = Files.readString(SOURCE);
        theLiterals(source);
        String code = withoutLiteralsAndComments(source);
        theWords(code);
        Map<String, String> bodies = theMethods(code);
        theDepth(bodies);
        System.out.println(bodies.size() + " methods looked at, " + wrong + " faults");
        if (wrong != 0) {
            System.exit(1);
        }
    }

    private static void theLiterals(String source) {
        for (int i = 0; i < source.length(); i++) {
            check(source.charAt(i) < 128, "a sign outside ASCII at " + i);
        }
    }

    private static String withoutLiteralsAndComments(String source) {
        return source.replaceAll("\"(?:[^\"\\\\]|\\\\.)*\"", "\"\"").replaceAll("'(?:[^'\\\\]|\\\\.)'", "0")
                .replaceAll("(?s)/\\*.*?\\*/", "").replaceAll("//.*", "");
    }

    private static void theWords(String code) {
        for (String pattern : RULED_OUT) {
            check(!Pattern.compile(pattern).matcher(code).find(), "the source has " + pattern);
        }
        eachMatch(code, "import ([^;]+);", name -> check(name.equals("java.util.Arrays"), "import " + name));
        eachMatch(code, "throw (.*?)\\(", name -> check(THROWN.contains(name.replace("new ", "")), "throw " + name));
        eachMatch(code, "\\b((?:Math|System|Arrays|Integer|Long|Thread|Runtime|String)\\.[a-zA-Z]+)", name -> check(LIBRARY.contains(name), name));
        check(code.split("\\bpublic (?:static )?final class\\b", -1).length == 2, "one public class");
    }

    private interface Look {
        void at(String found);
    }

    private static void eachMatch(String code, String pattern, Look look) {
        Matcher matcher = Pattern.compile(pattern).matcher(code);
        while (matcher.find()) {
            look.at(matcher.group(1));
        }
    }

    private static Map<String, String> theMethods(String code) {
        Map<String, String> bodies = new LinkedHashMap<>();
        Matcher matcher = METHOD.matcher(code);
        while (matcher.find()) {
            String name = matcher.group(2);
            String body = matcher.group(4);
            check(matcher.group(3).split(",").length <= 7, name + " has at most seven parameters");
            check(body.split("\n").length <= MOST_LINES, name + " has at most " + MOST_LINES + " lines");
            check(bodies.put(name, body) == null, name + " is the name of one method");
        }
        check(bodies.size() > 100, "the methods are found");
        return bodies;
    }

    private static void theDepth(Map<String, String> bodies) {
        for (String name : bodies.keySet()) {
            int depth = depth(name, bodies, new ArrayList<>());
            check(depth <= DEEPEST, name + " goes " + depth + " calls deep");
        }
    }

    private static int depth(String name, Map<String, String> bodies, List<String> open) {
        if (open.contains(name)) {
            check(false, name + " calls itself by " + open);
            return 0;
        }
        open.add(name);
        int[] deepest = {0};
        eachMatch(bodies.get(name), "\\b([a-zA-Z]+)\\(", called -> {
            if (bodies.containsKey(called)) {
                deepest[0] = Math.max(deepest[0], depth(called, bodies, open));
            }
        });
        open.remove(name);
        return deepest[0] + 1;
    }

    private static void check(boolean condition, String what) {
        if (!condition) {
            wrong++;
            System.out.println("fault: " + what);
        }
    }
}
