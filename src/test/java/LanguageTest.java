import java.lang.reflect.Constructor;
import java.lang.reflect.Field;
import java.lang.reflect.Method;
import java.lang.reflect.Modifier;
import java.nio.file.Files;
import java.nio.file.Path;
import java.util.ArrayList;
import java.util.Arrays;
import java.util.HashSet;
import java.util.List;
import java.util.Map;
import java.util.Set;
import java.util.TreeMap;
import java.util.TreeSet;
import java.util.regex.Matcher;
import java.util.regex.Pattern;

/** The face of the class, and what of LANGUAGE.md can be seen from the source's lines. Run from the project's folder. */
public final class LanguageTest {
    private static final Path SOURCE = Path.of("src/main/java/CookHands.java");
    private static final String[] FACE = {
        "int cook(int,int)", "int dish()", "int step(int,int,int,int,int)", "int knives(int)", "int strike(boolean)",
        "int hands(int,int)", "int type(long,int)", "int clear()", "int read()", "int soonest()", "int row(int)",
        "int whose(int,int)", "int cold(int)", "int help(int)", "int spared()", "int strikeCost()", "int menu(int)",
        "int burns(int)", "int drawn(int,int)", "int letGo(int)", "int wages()", "int cooked(int)", "int undo()",
        "int state(int,int)", "int sign(int)", "int limb(int,int)", "int image(int)", "int from(int)",
        "int status(int)", "int count(int)", "long digest()"};
    private static final String[] FORBIDDEN = {
        "throw", "throws", "try", "catch", "finally", "synchronized", "assert", "import", "package", "protected",
        "volatile", "native", "transient", "strictfp", "record", "var", "instanceof", "yield"};
    private static final Set<String> LIBRARY = Set.of(
        "Integer.bitCount", "Math.max", "Math.min", "System.arraycopy");

    private static int wrong;

    public static void main(String[] args) throws Exception {
        String source = Files.readString(SOURCE);
        String code = withoutCommentsAndTexts(source);
        face();
        classes();
        words(source, code);
        methods(code);
        callsInCalls(code);
        System.out.println(wrong == 0 ? "the class keeps to its face and language" : wrong + " faults of language");
        System.exit(wrong == 0 ? 0 : 1);
    }

    private static void must(boolean holds, String what) {
        if (!holds) {
            wrong++;
            System.out.println(what);
        }
    }

    private static void face() {
        Set<String> seen = new TreeSet<>();
        for (Method m : CookHands.class.getDeclaredMethods()) {
            if (!m.isSynthetic() && !Modifier.isPrivate(m.getModifiers())) {
                must(Modifier.toString(m.getModifiers()).equals("public"), m + " is not plainly public");
                StringBuilder parameters = new StringBuilder();
                for (Class<?> c : m.getParameterTypes()) {
                    parameters.append(parameters.length() == 0 ? "" : ",").append(c.getName());
                }
                seen.add(m.getReturnType().getName() + " " + m.getName() + "(" + parameters + ")");
            }
        }
        must(seen.equals(new TreeSet<>(Arrays.asList(FACE))), "the face is not the document's: " + seen);
        Set<String> fields = new TreeSet<>();
        for (Field f : CookHands.class.getDeclaredFields()) {
            if (!f.isSynthetic() && !Modifier.isPrivate(f.getModifiers())) {
                fields.add(Modifier.toString(f.getModifiers()) + " " + f.getType() + " " + f.getName());
            }
        }
        String constant = "public static final int ";
        must(fields.equals(new TreeSet<>(List.of(constant + "NONE", constant + "BAD", constant + "NO", constant + "FULL"))),
            "the constants are not the document's: " + fields);
        Constructor<?>[] constructors = CookHands.class.getDeclaredConstructors();
        must(constructors.length == 1 && Modifier.isPublic(constructors[0].getModifiers()), "one public constructor");
        must(Modifier.toString(CookHands.class.getModifiers()).equals("public final"), "public and final");
    }

    private static void classes() {
        Set<String> publicNames = new TreeSet<>();
        for (String line : FACE) {
            publicNames.add(line.substring(line.indexOf(' ') + 1, line.indexOf('(')));
        }
        List<Class<?>> all = new ArrayList<>(List.of(CookHands.class.getDeclaredClasses()));
        must(all.size() + 1 <= 12, "more than twelve classes");
        all.add(CookHands.class);
        for (Class<?> c : all) {
            int fields = 0;
            for (Field f : c.getDeclaredFields()) {
                boolean isStatic = Modifier.isStatic(f.getModifiers());
                fields += isStatic ? 0 : 1;
                must(!isStatic || Modifier.isFinal(f.getModifiers()), f + " is static and not final");
            }
            must(fields <= 20, c + " has more than twenty fields");
            must(c == CookHands.class || Modifier.isStatic(c.getModifiers()), c + " is not static");
            for (Method m : c.getDeclaredMethods()) {
                must(Modifier.isPublic(m.getModifiers()) || !publicNames.contains(m.getName()), m + " bears a public name");
                must(m.getParameterCount() <= 7, m + " has more than seven parameters");
            }
        }
    }

    private static String withoutCommentsAndTexts(String source) {
        return source.replaceAll("(?s)/\\*.*?\\*/", "").replaceAll("//[^\n]*", "").replaceAll("\"[^\"\n]*\"", "\"\"");
    }

    private static void words(String source, String code) {
        must(source.chars().allMatch(c -> c == '\n' || c >= 32 && c < 127), "a sign outside ASCII");
        for (String word : FORBIDDEN) {
            must(!Pattern.compile("\\b" + word + "\\b").matcher(code).find(), "the word " + word);
        }
        must(!code.contains("->") && !code.contains("::"), "a lambda or method reference");
        must(!code.contains("\"\" +") && !code.contains("+ \"\""), "texts joined by +");
        Matcher call = Pattern.compile("\\b([A-Z][a-z]\\w*)\\.([a-z]\\w*)\\(").matcher(code);
        while (call.find()) {
            String name = call.group(1) + "." + call.group(2);
            boolean own = code.contains("class " + call.group(1) + " ");
            must(own || LIBRARY.contains(name), name + " is not in the library's list here");
        }
        must(!Pattern.compile("\\[\\]\\[\\]\\[\\]").matcher(code).find(), "an array of three dimensions");
        must(!Pattern.compile("while \\(true\\)|for \\([^;)]*;;").matcher(code).find(), "a loop without an end");
    }

    private static void methods(String code) {
        String[] lines = code.split("\n", -1);
        int start = -1;
        String end = "";
        for (int i = 0; i < lines.length; i++) {
            Matcher head = Pattern.compile("^( {4}| {8})(public|private)[^=;]*\\) \\{$").matcher(lines[i]);
            if (head.find()) {
                start = i;
                end = head.group(1) + "}";
            } else if (start >= 0 && lines[i].equals(end)) {
                must(i - start < 60, "a long method: " + lines[start].trim());
                start = -1;
            }
        }
    }

    /** No call is a recursion, and none goes more than eight deep. */
    private static void callsInCalls(String code) {
        Map<String, String> bodies = bodies(code);
        Map<String, Set<String>> classes = classesOfNames(code);
        must(bodies.size() > FACE.length, "the methods were not found");
        for (String method : bodies.keySet()) {
            int deep = deepest(method, bodies, classes, new ArrayList<>());
            must(deep <= 8, method + " goes " + deep + " deep");
        }
    }

    /** Of each "Class.method" the lines between its braces. */
    private static Map<String, String> bodies(String code) {
        Map<String, String> bodies = new TreeMap<>();
        Pattern head = Pattern.compile("^( *)(?:public|private) .*?(\\w+)\\(.*\\) \\{$");
        String inside = "CookHands";
        String method = null;
        String end = "";
        StringBuilder body = new StringBuilder();
        for (String line : code.split("\n", -1)) {
            Matcher nested = Pattern.compile("^ {4}private static final class (\\w+) \\{$").matcher(line);
            Matcher start = head.matcher(line);
            if (nested.find()) {
                inside = nested.group(1);
            } else if (method == null && start.find()) {
                method = inside + "." + start.group(2);
                end = start.group(1) + "}";
                body.setLength(0);
            } else if (method != null && line.equals(end)) {
                must(!bodies.containsKey(method), method + " stands there twice");
                bodies.put(method, body.toString());
                method = null;
            } else {
                body.append(line).append('\n');
            }
        }
        return bodies;
    }

    private static int deepest(String method, Map<String, String> bodies, Map<String, Set<String>> classes, List<String> above) {
        must(!above.contains(method), method + " calls itself");
        if (above.contains(method) || above.size() > 20) {
            return 0;
        }
        above.add(method);
        int deep = 0;
        for (String called : calledIn(method, bodies, classes)) {
            deep = Math.max(deep, deepest(called, bodies, classes, above));
        }
        above.remove(above.size() - 1);
        return 1 + deep;
    }

    /** Of each name that stands for an object, or for a class itself, the classes that it may be of. */
    private static Map<String, Set<String>> classesOfNames(String code) {
        Map<String, Set<String>> classes = new TreeMap<>();
        for (Class<?> c : CookHands.class.getDeclaredClasses()) {
            classes.computeIfAbsent(c.getSimpleName(), n -> new TreeSet<>()).add(c.getSimpleName());
            Matcher declared = Pattern.compile("\\b" + c.getSimpleName() + "(?:\\[\\])? ([a-z]\\w*)").matcher(code);
            while (declared.find()) {
                classes.computeIfAbsent(declared.group(1), n -> new TreeSet<>()).add(c.getSimpleName());
            }
        }
        return classes;
    }

    /** A call behind a dot is of the class of the name ahead of it, or of any; one without, of the own class or the outer one. */
    private static Set<String> calledIn(String method, Map<String, String> bodies, Map<String, Set<String>> classes) {
        Set<String> called = new HashSet<>();
        Matcher call = Pattern.compile("(?:(\\w*)(?:\\[[^\\]]*\\]|\\))?(\\.))?\\b(\\w+)\\(").matcher(bodies.get(method));
        while (call.find()) {
            String name = call.group(3);
            Set<String> of = new TreeSet<>(List.of(method.substring(0, method.indexOf('.')), "CookHands", name));
            if (call.group(2) != null) {
                of = classes.getOrDefault(call.group(1), call.group(1).isEmpty() ? allClasses(classes) : Set.of());
            }
            for (String one : of) {
                if (bodies.containsKey(one + "." + name)) {
                    called.add(one + "." + name);
                }
            }
        }
        return called;
    }

    private static Set<String> allClasses(Map<String, Set<String>> classes) {
        Set<String> all = new TreeSet<>();
        classes.values().forEach(all::addAll);
        return all;
    }
}
