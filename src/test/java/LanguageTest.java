import java.lang.reflect.Constructor;
import java.lang.reflect.Field;
import java.lang.reflect.Method;
import java.lang.reflect.Modifier;
import java.nio.file.Files;
import java.nio.file.Path;
import java.util.ArrayList;
import java.util.Arrays;
import java.util.List;
import java.util.Set;
import java.util.TreeSet;
import java.util.regex.Matcher;
import java.util.regex.Pattern;

/** The face of the class, and what of LANGUAGE.md can be seen from the source's lines. Run from the project's folder. */
public final class LanguageTest {
    private static final Path SOURCE = Path.of("src/main/java/CookHands.java");
    private static final String[] FACE = {
        "int cook(int,int)", "int dish()", "int step(int,int,int,int,int)", "int knives(int)", "int strike(boolean)",
        "int hands(int,int)", "int type(long,int)", "int clear()", "int read()", "int soonest()", "int row(int)",
        "int whose(int,int)", "int cold(int)", "int help(int)", "int spared()", "int strikeCost()", "int menu(int)",
        "int burns(int)", "int drawn(int,int)", "int letGo(int)", "int wages()", "int cooked(int)", "int undo()",
        "int state(int,int)", "int sign(int)", "int limb(int,int)", "int image(int)", "int from(int)",
        "int status(int)", "int count(int)", "long digest()"};
    private static final String[] FORBIDDEN = {
        "throw", "throws", "try", "catch", "finally", "synchronized", "assert", "import", "package", "protected",
        "volatile", "native", "transient", "strictfp", "record", "var", "instanceof", "yield"};
    private static final Set<String> LIBRARY = Set.of(
        "Integer.bitCount", "Math.max", "Math.min", "System.arraycopy");

    private static int wrong;

    public static void main(String[] args) throws Exception {
        String source = Files.readString(SOURCE);
        String code = withoutCommentsAndTexts(source);
        face();
        classes();
        words(source, code);
        methods(code);
        System.out.println(wrong == 0 ? "the class keeps to its face and language" : wrong + " faults of language");
        System.exit(wrong == 0 ? 0 : 1);
    }

    private static void must(boolean holds, String what) {
        if (!holds) {
            wrong++;
            System.out.println(what);
        }
    }

    private static void face() {
        Set<String> seen = new TreeSet<>();
        for (Method m : CookHands.class.getDeclaredMethods()) {
            if (!m.isSynthetic() && !Modifier.isPrivate(m.getModifiers())) {
                must(Modifier.toString(m.getModifiers()).equals("public"), m + " is not plainly public");
                StringBuilder parameters = new StringBuilder();
                for (Class<?> c : m.getParameterTypes()) {
                    parameters.append(parameters.length() == 0 ? "" : ",").append(c.getName());
                }
                seen.add(m.getReturnType().getName() + " " + m.getName() + "(" + parameters + ")");
            }
        }
        must(seen.equals(new TreeSet<>(Arrays.asList(FACE))), "the face is not the document's: " + seen);
        Set<String> fields = new TreeSet<>();
        for (Field f : CookHands.class.getDeclaredFields()) {
            if (!f.isSynthetic() && !Modifier.isPrivate(f.getModifiers())) {
                fields.add(Modifier.toString(f.getModifiers()) + " " + f.getType() + " " + f.getName());
            }
        }
        String constant = "public static final int ";
        must(fields.equals(new TreeSet<>(List.of(constant + "NONE", constant + "BAD", constant + "NO", constant + "FULL"))),
            "the constants are not the document's: " + fields);
        Constructor<?>[] constructors = CookHands.class.getDeclaredConstructors();
        must(constructors.length == 1 && Modifier.isPublic(constructors[0].getModifiers()), "one public constructor");
        must(Modifier.toString(CookHands.class.getModifiers()).equals("public final"), "public and final");
    }

    private static void classes() {
        Set<String> publicNames = new TreeSet<>();
        for (String line : FACE) {
            publicNames.add(line.substring(line.indexOf(' ') + 1, line.indexOf('(')));
        }
        List<Class<?>> all = new ArrayList<>(List.of(CookHands.class.getDeclaredClasses()));
        must(all.size() + 1 <= 12, "more than twelve classes");
        all.add(CookHands.class);
        for (Class<?> c : all) {
            int fields = 0;
            for (Field f : c.getDeclaredFields()) {
                boolean isStatic = Modifier.isStatic(f.getModifiers());
                fields += isStatic ? 0 : 1;
                must(!isStatic || Modifier.isFinal(f.getModifiers()), f + " is static and not final");
            }
            must(fields <= 20, c + " has more than twenty fields");
            must(c == CookHands.class || Modifier.isStatic(c.getModifiers()), c + " is not static");
            for (Method m : c.getDeclaredMethods()) {
                must(Modifier.isPublic(m.getModifiers()) || !publicNames.contains(m.getName()), m + " bears a public name");
                must(m.getParameterCount() <= 7, m + " has more than seven parameters");
            }
        }
    }

    private static String withoutCommentsAndTexts(String source) {
        return source.replaceAll("(?s)/\\*.*?\\*/", "").replaceAll("//[^\n]*", "").replaceAll("\"[^\"\n]*\"", "\"\"");
    }

    private static void words(String source, String code) {
        must(source.chars().allMatch(c -> c == '\n' || c >= 32 && c < 127), "a sign outside ASCII");
        for (String word : FORBIDDEN) {
            must(!Pattern.compile("\\b" + word + "\\b").matcher(code).find(), "the word " + word);
        }
        must(!code.contains("->") && !code.contains("::"), "a lambda or method reference");
        must(!code.contains("\"\" +") && !code.contains("+ \"\""), "texts joined by +");
        Matcher call = Pattern.compile("\\b([A-Z][a-z]\\w*)\\.([a-z]\\w*)\\(").matcher(code);
        while (call.find()) {
            String name = call.group(1) + "." + call.group(2);
            boolean own = code.contains("class " + call.group(1) + " ");
            must(own || LIBRARY.contains(name), name + " is not in the library's list here");
        }
        must(!Pattern.compile("\\[\\]\\[\\]\\[\\]").matcher(code).find(), "an array of three dimensions");
        must(!Pattern.compile("while \\(true\\)|for \\([^;)]*;;").matcher(code).find(), "a loop without an end");
    }

    private static void methods(String code) {
        String[] lines = code.split("\n", -1);
        int start = -1;
        String end = "";
        for (int i = 0; i < lines.length; i++) {
            Matcher head = Pattern.compile("^( {4}| {8})(public|private)[^=;]*\\) \\{$").matcher(lines[i]);
            if (head.find()) {
                start = i;
                end = head.group(1) + "}";
            } else if (start >= 0 && lines[i].equals(end)) {
                must(i - start < 60, "a long method: " + lines[start].trim());
                start = -1;
            }
        }
    }
}
