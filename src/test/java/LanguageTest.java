import java.io.IOException;
import java.lang.reflect.Constructor;
import java.lang.reflect.Field;
import java.lang.reflect.Method;
import java.lang.reflect.Modifier;
import java.nio.file.Files;
import java.nio.file.Path;
import java.util.ArrayList;
import java.util.HashMap;
import java.util.List;
import java.util.Map;
import java.util.Set;
import java.util.TreeSet;
import java.util.regex.Matcher;
import java.util.regex.Pattern;

/** Those rules of LANGUAGE.md that can be seen without running the program. The working folder is the project's. */
public final class LanguageTest {
    private static final Checks CHECKS = new Checks();
    private static final Path PROGRAM = Path.of("src/main/java/MudBoot.java");
    private static final String[] FACE = {"dig", "carry", "bar", "soil", "span", "layer", "clean", "rules", "far", "where",
        "odds", "parted", "start", "paces", "way", "ways", "flowers", "months", "when", "journey", "trowel", "feed", "end",
        "law", "fault", "by", "step", "forget", "walked", "wear", "held", "believed", "verdict", "lean", "agree", "image",
        "back", "about"};
    private static final String[] NEVER = {"\\bthrow\\b", "\\bthrows\\b", "\\btry\\b", "\\bcatch\\b", "\\bfinally\\b",
        "\\bsynchronized\\b", "\\bassert\\b", "\\bimport\\b", "\\bpackage\\b", "->", "::", "Exact\\b", "\\bstatic\\s*\\{",
        "\\bprotected\\b", "\\bequals\\b", "\\bhashCode\\b", "\\btoString\\b", "\\bRandom\\b", "\\bThread\\b",
        "\\bSystem\\.(?!arraycopy)", "\\bnew\\s+\\w+\\s*\\([^)]*\\)\\s*\\{", "\\[\\]\\s*\\["};

    private static void words(String source) {
        for (String never : NEVER) CHECKS.due("found " + never, Pattern.compile(never).matcher(source).find(), false);
        for (int i = 0; i < source.length(); i++) {
            char sign = source.charAt(i);
            CHECKS.due("sign " + (int) sign, sign == '\n' || sign >= 32 && sign < 127, true);
        }
    }

    private static void sizes(String source) {
        Matcher head = Pattern.compile("\n( +)(?!else|return|new)[\\w<>\\[\\] ]+\\(([^()]*)\\) \\{\n").matcher(source);
        int methods = 0;
        while (head.find()) {
            methods++;
            int end = source.indexOf("\n" + head.group(1) + "}", head.end());
            long lines = source.substring(head.start() + 1, end).lines().count();
            CHECKS.due("lines of " + head.group().trim(), lines <= 60, true);
            CHECKS.due("parameters of " + head.group().trim(), head.group(2).split(",").length <= 7, true);
        }
        CHECKS.due("methods are seen", methods > 100, true);
        int classes = source.split("\\bclass \\w").length - 1;
        CHECKS.due("classes", classes <= 13, true);
    }

    /** Rule 4: of the library only what the program has been seen to need. */
    private static void library(String source) {
        Set<String> known = Set.of("Math.min", "Math.max", "Math.abs", "Math.floorMod", "Long.bitCount", "System.arraycopy");
        Matcher call = Pattern.compile("\\b([A-Z]\\w*[a-z]\\w*)\\.(\\w+)\\(").matcher(source);
        while (call.find()) {
            boolean own = source.contains("class " + call.group(1) + " ");
            CHECKS.due("library " + call.group(), own || known.contains(call.group(1) + "." + call.group(2)), true);
        }
        Matcher type = Pattern.compile("\\b(double|float|Object|Integer|Long|List|ArrayList|StringBuilder|Arrays)\\b(?!\\.bitCount)")
            .matcher(source);
        CHECKS.due("other types", type.find(), false);
    }

    /** Rule 11: how deep calls go, each method once in a row; calls are known by their names alone. */
    private static void depth(String source) {
        Map<String, Set<String>> calls = new HashMap<>();
        String name = null;
        for (String line : source.split("\n")) {
            Matcher head = Pattern.compile("^ {4}(?: {4})?(?:[\\w<>\\[\\]]+ )*(\\w+)\\([^()]*\\) \\{.*").matcher(line);
            Matcher call = Pattern.compile("(?<!new )\\b(\\w+)\\(").matcher(line);
            if (head.matches() && !Set.of("if", "for", "while", "switch").contains(head.group(1))) {
                name = head.group(1);
                calls.computeIfAbsent(name, n -> new TreeSet<>());
            } else {
                while (name != null && call.find()) calls.get(name).add(call.group(1));
            }
        }
        for (String of : FACE) {
            List<String> deepest = deepest(of, calls, new ArrayList<>());
            CHECKS.due("depth of " + deepest, deepest.size() <= 8, true);
        }
        CHECKS.due("rows are seen", deepest("law", calls, new ArrayList<>()).contains("readOne"), true);
    }

    private static List<String> deepest(String of, Map<String, Set<String>> calls, List<String> ahead) {
        List<String> row = new ArrayList<>(ahead);
        row.add(of);
        List<String> best = row;
        for (String next : calls.getOrDefault(of, Set.of())) {
            if (row.contains(next) || !calls.containsKey(next)) continue;
            List<String> one = deepest(next, calls, row);
            if (one.size() > best.size()) best = one;
        }
        return best;
    }

    private static void face() {
        Set<String> publics = new TreeSet<>();
        List<String> others = new ArrayList<>();
        for (Method m : MudBoot.class.getDeclaredMethods()) {
            if (Modifier.isPublic(m.getModifiers())) publics.add(m.getName());
            else if (!Modifier.isPrivate(m.getModifiers())) others.add(m.getName());
        }
        for (Field f : MudBoot.class.getDeclaredFields()) {
            if (!Modifier.isPrivate(f.getModifiers()) && !f.getName().equals("NONE")) others.add(f.getName());
        }
        CHECKS.due("no members beside the face " + others, others.size(), 0);
        CHECKS.due("the face " + publics, publics.equals(new TreeSet<>(List.of(FACE))), true);
        Constructor<?>[] makers = MudBoot.class.getDeclaredConstructors();
        CHECKS.due("one constructor", makers.length, 1);
        CHECKS.due("public", Modifier.isPublic(makers[0].getModifiers()), true);
        CHECKS.due("public and final", MudBoot.class.getModifiers(), Modifier.PUBLIC | Modifier.FINAL);
        ofClass(MudBoot.class, publics);
        for (Class<?> c : MudBoot.class.getDeclaredClasses()) {
            CHECKS.due(c + " is static", Modifier.isStatic(c.getModifiers()), true);
            CHECKS.due(c + " is private", Modifier.isPrivate(c.getModifiers()), true);
            ofClass(c, publics);
        }
    }

    private static void ofClass(Class<?> c, Set<String> publics) {
        int fields = 0;
        for (Field f : c.getDeclaredFields()) {
            if (!Modifier.isStatic(f.getModifiers())) fields++;
            else CHECKS.due("static " + f + " is final", Modifier.isFinal(f.getModifiers()), true);
            boolean constant = Set.of(int.class, long.class, boolean.class, char.class, String.class).contains(f.getType());
            CHECKS.due("static " + f + " is a constant", !Modifier.isStatic(f.getModifiers()) || constant, true);
        }
        CHECKS.due("fields of " + c, fields <= 20, true);
        for (Method m : c.getDeclaredMethods()) {
            boolean own = c != MudBoot.class || Modifier.isPrivate(m.getModifiers());
            CHECKS.due(m + " bears a public name", own && publics.contains(m.getName()), false);
        }
    }

    public static void main(String[] args) throws IOException {
        String source = Files.readString(PROGRAM);
        String bare = source.replaceAll("(?s)/\\*.*?\\*/", "").replaceAll("//[^\n]*", "").replaceAll("\"[^\"\n]*\"", "\"\"");
        words(bare);
        sizes(bare);
        library(bare);
        depth(bare);
        face();
        CHECKS.finish("LanguageTest");
    }
}
