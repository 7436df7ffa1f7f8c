import java.lang.reflect.Method;
import java.lang.reflect.Modifier;
import java.nio.file.Files;
import java.nio.file.Path;
import java.util.ArrayList;
import java.util.Arrays;
import java.util.HashSet;
import java.util.List;
import java.util.Map;
import java.util.Random;
import java.util.Set;
import java.util.TreeMap;
import java.util.regex.Matcher;
import java.util.regex.Pattern;

/**
 * README.md held against the class: each line of its examples, and of its
 * tables that each call stands there, for what reasons it is refused, with
 * what answers. Run from the project's folder.
 */
public final class ReadmeTest extends Checks {
    private static final String[] REASONS = {"BAD", "NO", "FULL"};
    private static final int[] USUAL = {BAD, NO, FULL};
    private static final int[] OFTEN = {0, 0, 1, 1, 2, 2, 3, 4, 5, 6, 7, 8, 9, 10, 20, 21, 60, 61, 999999, 1000000};
    private static final Pattern EXAMPLE = Pattern.compile("x\\.(\\w+)\\((.*?)\\); +// (-?\\d+)(:.*)?");
    private static final Pattern ROW = Pattern.compile("\\| `(\\w+)\\((.*?)\\)` \\| (.*) \\| (.*) \\|");
    private static final Pattern REASON = Pattern.compile("(BAD|NO|FULL)(?: \\((-\\d+)\\))?: ");

    /** Of a call: what it answers if it is refused as BAD, NO, FULL; null, if the README says that it never is. */
    private static final Map<String, Integer[]> told = new TreeMap<>();
    /** Of a call and a reason: that it was seen to be refused so. */
    private static final Set<String> seen = new HashSet<>();

    public static void main(String[] args) throws Exception {
        List<String> lines = Files.readAllLines(Path.of("README.md"));
        of("README, its tables");
        tables(lines);
        of("README, its examples");
        examples(lines);
        of("README, what is refused");
        for (int seed = 0; seed < 3000; seed++) {
            anyCalls(new Random(seed));
        }
        allSeen();
        end("the README");
    }

    private static void must(boolean holds, String what) {
        due(1, holds ? 1 : 0);
        if (!holds) {
            System.out.println(what);
        }
    }

    private static List<Method> calls() {
        List<Method> calls = new ArrayList<>();
        for (Method m : CookHands.class.getDeclaredMethods()) {
            if (Modifier.isPublic(m.getModifiers())) {
                calls.add(m);
            }
        }
        calls.sort((a, b) -> a.getName().compareTo(b.getName()));
        return calls;
    }

    private static Method callOf(String name) {
        for (Method m : calls()) {
            if (m.getName().equals(name)) {
                return m;
            }
        }
        return null;
    }

    // ---- the tables

    private static void tables(List<String> lines) {
        for (String line : lines) {
            Matcher row = ROW.matcher(line);
            if (row.matches()) {
                Method call = callOf(row.group(1));
                must(call != null && !told.containsKey(row.group(1)), "not a call, or told twice: " + line);
                if (call != null) {
                    int parameters = row.group(2).isEmpty() ? 0 : row.group(2).split(", ").length;
                    due(call.getParameterCount(), parameters);
                    told.put(row.group(1), answersIn(row.group(4)));
                }
            } else {
                must(!line.startsWith("| `"), "not a row of a call: " + line);
            }
        }
        for (Method call : calls()) {
            must(told.containsKey(call.getName()), call.getName() + " is not told");
        }
    }

    private static Integer[] answersIn(String refused) {
        Integer[] answers = new Integer[REASONS.length];
        Matcher reason = REASON.matcher(refused);
        while (reason.find()) {
            int i = Arrays.asList(REASONS).indexOf(reason.group(1));
            answers[i] = reason.group(2) == null ? USUAL[i] : Integer.parseInt(reason.group(2));
        }
        boolean never = answers[0] == null && answers[1] == null && answers[2] == null;
        must(never == refused.equals("never"), "not understood: " + refused);
        return answers;
    }

    // ---- the examples

    private static void examples(List<String> lines) throws Exception {
        CookHands x = null;
        boolean inside = false;
        int examples = 0;
        for (String line : lines) {
            if (line.startsWith("```")) {
                inside = line.equals("```java");
            } else if (inside && line.equals("CookHands x = new CookHands();")) {
                x = new CookHands();
            } else if (inside) {
                Matcher example = EXAMPLE.matcher(line);
                must(example.matches() && x != null, "not understood: " + line);
                if (example.matches() && x != null) {
                    long answer = answer(callOf(example.group(1)), x, numbersOf(example.group(2)));
                    must(answer == Long.parseLong(example.group(3)), "answered " + answer + ": " + line);
                    examples++;
                }
            }
        }
        must(examples > 40, "few examples were found");
    }

    private static long[] numbersOf(String list) {
        String[] texts = list.isEmpty() ? new String[0] : list.split(", ");
        long[] numbers = new long[texts.length];
        for (int i = 0; i < texts.length; i++) {
            numbers[i] = Long.decode(texts[i].replaceAll("L$", ""));
        }
        return numbers;
    }

    private static long answer(Method call, CookHands x, long[] numbers) throws Exception {
        Object[] values = new Object[numbers.length];
        for (int i = 0; i < values.length; i++) {
            Class<?> type = call.getParameterTypes()[i];
            if (type == boolean.class) {
                values[i] = numbers[i] % 2 != 0;
            } else if (type == long.class) {
                values[i] = numbers[i];
            } else {
                values[i] = (int) numbers[i];
            }
        }
        return ((Number) call.invoke(x, values)).longValue();
    }

    // ---- what is refused

    /** Calls with any numbers: what STATUS counts is what the README tells, and is answered so. */
    private static void anyCalls(Random random) throws Exception {
        CookHands x = kitchenToCall(random.nextInt(5));
        List<Method> calls = calls();
        int[] before = statusOf(x);
        for (int i = 0; i < 100; i++) {
            Method call = calls.get(random.nextInt(calls.size()));
            long[] numbers = new long[call.getParameterCount()];
            for (int k = 0; k < numbers.length; k++) {
                numbers[k] = random.nextInt(12) == 0 ? random.nextInt() : OFTEN[random.nextInt(random.nextInt(OFTEN.length) + 1)];
            }
            long answer = answer(call, x, numbers);
            int[] behind = statusOf(x);
            refusedAsTold(call.getName(), answer, before, behind);
            before = behind;
        }
    }

    /** Of all sorts; the last ones are full, or nearly so. */
    private static CookHands kitchenToCall(int sort) {
        switch (sort) {
            case 0: return new CookHands();
            case 1: return begun();
            case 2: return shared(6);
            case 3: return longest(COOK, COOK, COOK, COOK, COOK, COOK);
            default: CookHands x = shared(45);
                typeByEight(x, "cook 0 1;".repeat(22));
                return x;
        }
    }

    private static int[] statusOf(CookHands x) {
        return new int[] {x.status(0), x.status(1), x.status(2)};
    }

    private static void refusedAsTold(String name, long answer, int[] before, int[] behind) {
        int reasons = 0;
        for (int i = 0; i < REASONS.length; i++) {
            if (behind[i] != before[i]) {
                reasons += behind[i] - before[i];
                seen.add(name + " " + REASONS[i]);
                Integer due = told.containsKey(name) ? told.get(name)[i] : null;
                must(due != null && due == answer, name + " was refused as " + REASONS[i] + " by " + answer);
            }
        }
        must(reasons <= 1, name + " was counted more than once");
    }

    private static void allSeen() {
        for (Map.Entry<String, Integer[]> call : told.entrySet()) {
            for (int i = 0; i < REASONS.length; i++) {
                if (call.getValue()[i] != null) {
                    String refusal = call.getKey() + " " + REASONS[i];
                    must(seen.contains(refusal), refusal + " is told, but was never seen");
                }
            }
        }
    }
}
