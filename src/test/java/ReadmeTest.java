import java.lang.reflect.Method;
import java.nio.charset.StandardCharsets;
import java.nio.file.Files;
import java.nio.file.Path;
import java.util.HashSet;
import java.util.List;
import java.util.Set;
import java.util.regex.MatchResult;
import java.util.regex.Matcher;
import java.util.regex.Pattern;

/** README.md says nothing that the class doesn't do: its texts, its faults and its examples. */
public final class ReadmeTest {
    private static final Pattern FAULT = Pattern.compile(
            "\\| `(tree|afternoon)\\(\\)` \\| `([^`]*)` \\| (\\d+) \\| kind (\\d) at place (\\d+)[:,].*");
    private static final Pattern METHOD = Pattern.compile("\\| `([a-z]+)\\([a-z, ]*\\)` \\| .* \\| (.*) \\|");
    private static final Pattern EXAMPLE = Pattern.compile("`([a-z]+)\\(([^`]*)\\)` = (-?\\d+|true|false)");

    private static final Checks CHECKS = new Checks();

    private ReadmeTest() {
    }

    public static void main(String[] args) throws Exception {
        String readme = Files.readString(Path.of("README.md"), StandardCharsets.US_ASCII);
        String tree = block(readme, "tree");
        String afternoon = block(readme, "afternoon");
        List<String> lines = readme.lines().toList();
        CHECKS.treeStands(tree);
        CHECKS.dayStands(tree, afternoon);
        firstSteps(block(readme, "java\nElmKite"));
        faults(tree, lines);
        methods(tree, afternoon, lines);
        CHECKS.end("ReadmeTest");
    }

    private static String block(String readme, String kind) {
        int from = readme.indexOf("```" + kind) + 3 + kind.length();
        return readme.substring(from, readme.indexOf("```", from)).trim();
    }

    /** The same calls as in the page, whose answers stand behind // there. */
    private static void firstSteps(String page) {
        Matcher text = Pattern.compile("feed\\(kite, \"([^\"]*)\"\\)").matcher(page);
        CHECKS.due("the page feeds a text", text.find(), true);
        ElmKite kite = new ElmKite();
        Feeding.feed(kite, text.group(1));
        int[] got = {kite.tree(), kite.next(3, 1), kite.pull(0, false, 0), kite.worth()};
        List<MatchResult> told = Pattern.compile("kite\\.(.*);\\s*// (\\d+):").matcher(page).results().toList();
        String[] calls = {"tree()", "next(3, 1)", "pull(0, false, 0)", "worth()"};
        CHECKS.due("answers told in the page's first steps", told.size(), calls.length);
        for (int i = 0; i < told.size() && i < calls.length; i++) {
            CHECKS.due(calls[i] + " is call " + i, told.get(i).group(1).equals(calls[i]), true);
            CHECKS.due(calls[i], got[i], Integer.parseInt(told.get(i).group(2)));
        }
    }

    private static void faults(String tree, List<String> lines) {
        Set<Integer> kinds = new HashSet<>();
        for (String line : lines) {
            Matcher m = FAULT.matcher(line);
            if (!m.matches()) {
                continue;
            }
            ElmKite kite = Feeding.told(tree);
            String text = m.group(2);
            int got = m.group(1).equals("tree") ? Feeding.tree(kite, text) : Feeding.afternoon(kite, text);
            CHECKS.due(m.group(1) + "() of " + text, got, Integer.parseInt(m.group(3)));
            int kind = Integer.parseInt(m.group(4));
            CHECKS.due(line, got, kind + 16L * Integer.parseInt(m.group(5)));
            kinds.add(kind);
        }
        CHECKS.due("kinds of faults in the page", kinds.size(), 5);
    }

    private static void methods(String tree, String afternoon, List<String> lines) throws Exception {
        Set<String> told = new HashSet<>();
        for (String line : lines) {
            Matcher row = METHOD.matcher(line);
            if (!row.matches() || !row.group(2).contains(" = ")) {
                continue;
            }
            told.add(row.group(1));
            ElmKite kite = Feeding.told(tree);
            Feeding.afternoon(kite, afternoon);
            boolean ofItself = false;
            for (MatchResult example : EXAMPLE.matcher(row.group(2)).results().toList()) {
                CHECKS.due(row.group(1) + ": " + example.group(), answer(kite, example), number(example.group(3)));
                ofItself |= example.group(1).equals(row.group(1));
            }
            CHECKS.due(row.group(1) + " has an example of itself", ofItself, true);
        }
        for (Method method : ElmKite.class.getDeclaredMethods()) {
            if (java.lang.reflect.Modifier.isPublic(method.getModifiers())) {
                CHECKS.due(method.getName() + " stands in the page", told.contains(method.getName()), true);
            }
        }
    }

    private static long answer(ElmKite kite, MatchResult example) throws Exception {
        String[] words = example.group(2).isEmpty() ? new String[0] : example.group(2).split(", ");
        for (Method method : ElmKite.class.getDeclaredMethods()) {
            if (method.getName().equals(example.group(1)) && method.getParameterCount() == words.length) {
                Object[] values = new Object[words.length];
                for (int i = 0; i < words.length; i++) {
                    values[i] = value(method.getParameterTypes()[i], words[i]);
                }
                return number(String.valueOf(method.invoke(kite, values)));
            }
        }
        throw new IllegalStateException("no such method: " + example.group());
    }

    private static Object value(Class<?> type, String word) {
        if (type == boolean.class) {
            return Boolean.valueOf(word);
        }
        long number = Long.decode(word.replace("L", ""));
        return type == int.class ? (Object) (int) number : (Object) number;
    }

    private static long number(String word) {
        return word.equals("true") ? 1 : word.equals("false") ? 0 : Long.parseLong(word);
    }
}
