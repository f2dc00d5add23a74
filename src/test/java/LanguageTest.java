import java.io.IOException;
import java.lang.reflect.Field;
import java.lang.reflect.Modifier;
import java.nio.file.Files;
import java.nio.file.Path;
import java.util.ArrayList;
import java.util.HashSet;
import java.util.List;
import java.util.Map;
import java.util.Random;
import java.util.Set;
import java.util.TreeMap;
import java.util.TreeSet;
import java.util.regex.MatchResult;
import java.util.regex.Matcher;
import java.util.regex.Pattern;

/** The rules of LANGUAGE.md that can be told from the class's text, its shape or its runs. Run from the project's folder. */
public final class LanguageTest {
    private static final Path SOURCE = Path.of("src/main/java/OutputStore.java");

    private static final String[] LEFT_OUT = {
        "\\bthrow\\b", "\\bthrows\\b", "\\btry\\b", "\\bcatch\\b", "\\bsynchronized\\b", "\\bassert\\b",
        "\\bpackage\\b", "\\bimport\\b", "->", "::", "Exact\\(", "\\bprotected\\b", "\\bvar\\b",
        "\\bhashCode\\b", "\\btoString\\b", "\\bSystem\\b", "\\bThread\\b", "static \\{",
        // Rule 9: a loop that isn't counted is allowed with care, and the class needs none.
        "\\bwhile\\b", "\\bfor \\((;|[^;]*;\\s*;)",
    };

    private static final Set<Class<?>> CONSTANTS = Set.of(int.class, long.class, boolean.class, char.class, String.class);

    private static final Pattern HEAD =
        Pattern.compile("(?m)^( {4}| {8})(?:[a-z]+ )*(?:[\\w\\[\\]]+ )?(\\w+)\\(([^()]*)\\) \\{$");
    private static final Pattern CALLED = Pattern.compile("\\b(\\w+)\\(");

    private record Method(String name, int parameters, int lines, String body) {
    }

    public static void main(String[] args) throws IOException {
        String text = Files.readString(SOURCE);
        String code = text.replaceAll("(?s)/\\*.*?\\*/", "").replaceAll("//[^\n]*", "");
        for (String word : LEFT_OUT) {
            Checks.due("how often the class has " + word, count(word, code), 0);
        }
        Checks.due("characters from 0 to 255 alone", text.chars().allMatch(c -> c <= 255), true);
        List<Method> methods = methodsOf(code);
        rule4OwnNamesAlone(code);
        rule5StaticFields();
        rule7NothingThrows();
        rule8NoRecursionRule11Depth(methods);
        rule11Sizes(methods);
        rule12NothingMadeInCalls(methods);
        Checks.finish();
    }

    private static long count(String pattern, String code) {
        return Pattern.compile(pattern).matcher(code).results().count();
    }

    private static List<Class<?>> allClasses() {
        List<Class<?>> all = new ArrayList<>(List.of(OutputStore.class.getDeclaredClasses()));
        all.add(OutputStore.class);
        return all;
    }

    private static List<Method> methodsOf(String code) {
        List<Method> methods = new ArrayList<>();
        for (MatchResult head : HEAD.matcher(code).results().toList()) {
            int close = code.indexOf("\n" + head.group(1) + "}", head.end());
            String body = code.substring(head.end(), close);
            String parameters = head.group(3);
            int count = parameters.isBlank() ? 0 : parameters.split(",").length;
            methods.add(new Method(head.group(2), count, (int) body.lines().count() + 1, body));
        }
        int declared = 0;
        for (Class<?> one : allClasses()) {
            declared += one.getDeclaredMethods().length;
        }
        // The outer class's constructor is the only one that is written out.
        Checks.due("methods found in the text", methods.size(), declared + 1);
        return methods;
    }

    /** The class uses nothing of the library: every name with a capital is its own. */
    private static void rule4OwnNamesAlone(String code) {
        Set<String> own = new HashSet<>();
        for (Class<?> one : allClasses()) {
            own.add(one.getSimpleName());
        }
        Matcher names = Pattern.compile("\\b[A-Z]\\w*[a-z]\\w*").matcher(code);
        while (names.find()) {
            Checks.due("of its own: " + names.group(), own.contains(names.group()), true);
        }
    }

    private static void rule5StaticFields() {
        for (Class<?> one : allClasses()) {
            for (Field field : one.getDeclaredFields()) {
                if (Modifier.isStatic(field.getModifiers())) {
                    Checks.due(field + " is final", Modifier.isFinal(field.getModifiers()), true);
                    Checks.due(field + " is a constant", CONSTANTS.contains(field.getType()), true);
                }
            }
        }
    }

    /** Whatever is given, and past the 512th call too, where answers are free but rule 7 still holds. */
    private static void rule7NothingThrows() {
        for (int seed = 0; seed < 40; seed++) {
            Random random = new Random(seed);
            OutputStore x = new OutputStore();
            String thrown = "";
            try {
                for (int i = 0; i < 4000; i++) {
                    anyCall(x, random);
                }
            } catch (RuntimeException | Error e) {
                thrown = e.toString();
            }
            Checks.due("seed " + seed + ": what was thrown", thrown, "");
        }
    }

    private static void anyCall(OutputStore x, Random random) {
        int a = any(random);
        int b = any(random);
        int c = any(random);
        long content = random.nextInt(8) == 0 ? random.nextLong() : any(random);
        boolean yes = random.nextInt(5) != 0;
        switch (random.nextInt(16)) {
            case 0 -> x.path(a);
            case 1 -> x.begin(a, b, c);
            case 2 -> x.end(a, yes);
            case 3 -> x.abandon(a);
            case 4 -> x.cache(content, yes);
            case 5 -> x.read(a, b);
            case 6 -> x.held(a);
            case 7 -> x.letGo(a);
            case 8 -> x.content(a, b);
            case 9 -> x.about(a, b, c);
            case 10 -> x.list(a, b, c);
            case 11 -> x.dirty(a, b);
            case 12 -> x.clear(a);
            case 13 -> x.copies(content);
            case 14 -> x.stored();
            default -> x.stage(a, b, content, yes, !yes);
        }
    }

    private static int any(Random random) {
        int luck = random.nextInt(20);
        if (luck == 0) {
            return random.nextInt();
        }
        if (luck == 1) {
            return -random.nextInt(3);
        }
        return random.nextInt(luck < 12 ? 4 : 110);
    }

    /** By names alone, so that methods of one name count as one: no path of calls is longer than this tells. */
    private static void rule8NoRecursionRule11Depth(List<Method> methods) {
        Map<String, Set<String>> calls = new TreeMap<>();
        for (Method method : methods) {
            calls.computeIfAbsent(method.name, name -> new TreeSet<>());
        }
        for (Method method : methods) {
            Matcher called = CALLED.matcher(method.body);
            while (called.find()) {
                if (calls.containsKey(called.group(1))) {
                    calls.get(method.name).add(called.group(1));
                }
            }
        }
        for (String name : calls.keySet()) {
            Checks.due(name + ": at most eight calls deep", depth(name, calls, 0) <= 8, true);
        }
    }

    private static int depth(String name, Map<String, Set<String>> calls, int above) {
        int deepest = 0;
        // Recursion would never end here; it shows as a depth that is far too great.
        if (above < 20) {
            for (String called : calls.get(name)) {
                deepest = Math.max(deepest, depth(called, calls, above + 1));
            }
        }
        return deepest + 1;
    }

    private static void rule11Sizes(List<Method> methods) {
        for (Method method : methods) {
            Checks.due(method.name + ": at most seven parameters", method.parameters <= 7, true);
            Checks.due(method.name + ": at most sixty lines", method.lines <= 60, true);
        }
        Checks.due("at most twelve classes", allClasses().size() <= 12, true);
        for (Class<?> one : allClasses()) {
            int fields = 0;
            for (Field field : one.getDeclaredFields()) {
                fields += Modifier.isStatic(field.getModifiers()) ? 0 : 1;
            }
            Checks.due(one + ": at most twenty fields", fields <= 20, true);
        }
    }

    /** All rows are made in constructors and used again, as README.md says. */
    private static void rule12NothingMadeInCalls(List<Method> methods) {
        for (Method method : methods) {
            if (!method.name.equals("OutputStore")) {
                Checks.due(method.name + " makes objects", count("\\bnew\\b", method.body), 0);
            }
        }
    }
}
