import java.lang.reflect.Constructor;
import java.lang.reflect.Field;
import java.lang.reflect.Member;
import java.lang.reflect.Method;
import java.lang.reflect.Modifier;
import java.nio.charset.StandardCharsets;
import java.nio.file.Files;
import java.nio.file.Path;
import java.util.ArrayList;
import java.util.Arrays;
import java.util.HashSet;
import java.util.List;
import java.util.Set;
import java.util.TreeSet;
import java.util.regex.Matcher;
import java.util.regex.Pattern;

/** What of ../shared/LANGUAGE.md can be seen from the source and the class. */
public final class LanguageTest {
    private static final String SOURCE = "src/main/java/ElmKite.java";
    private static final List<String> FACE = List.of(
            "int feed(long,long,long)", "int tree()", "int afternoon()", "int twig(int,int)", "int thing(int,int)",
            "int chance(int,boolean,int)", "int pull(int,boolean,int)", "int slack()", "boolean lifts()",
            "int hurl(int,int)", "boolean climb(int,boolean)", "int hour(int)", "boolean undo()", "int judged(int)",
            "int worth()", "int next(int,int)", "boolean tell(int,boolean)", "int fits()", "int likely(int)",
            "int tells()", "int cut(int,int,int)", "int waits(int,int)", "int lasts()", "int far(int)",
            "int minutes(int)", "int safe(int,int)", "int places(int)", "int nearest(int,int)", "int came(int,int)",
            "int afternoons(int,int,int,int)", "boolean mark(int,boolean)", "int count(int)");

    private static final Checks CHECKS = new Checks();

    private LanguageTest() {
    }

    public static void main(String[] args) throws Exception {
        String source = Files.readString(Path.of(SOURCE), StandardCharsets.ISO_8859_1);
        source(source);
        lengths(source);
        depths(source);
        face();
        inside();
        CHECKS.end("LanguageTest");
    }

    private static String bare(String source) {
        return source.replaceAll("(?s)/\\*.*?\\*/", "").replaceAll("//[^\n]*", "");
    }

    private static void none(String rule, String source, String pattern) {
        Matcher m = Pattern.compile(pattern).matcher(source);
        CHECKS.due(rule + ": " + (m.find() ? m.group() : pattern), m.reset().results().count(), 0);
    }

    private static void source(String source) {
        String bare = bare(source);
        String noTexts = bare.replaceAll("\"[^\"]*\"", "\"\"");
        none("signs 1 to 126", source, "[^\\x09\\x0a\\x20-\\x7e]");
        none("rule 1: no package", noTexts, "\\bpackage\\b");
        none("rule 2", noTexts, "->|::|\\bnew [A-Za-z]+\\([^()]*\\) \\{");
        none("rule 4", noTexts, "import (?!java\\.util\\.(Arrays|ArrayList|List|Iterator);)");
        none("rule 4", noTexts, "\\w+Exact\\b|System\\.(?!arraycopy)|\\bObject\\b|Collections|Map\\b|Set\\b|Random|Thread");
        none("rule 5", noTexts, "static \\{");
        none("rule 6", noTexts, "\\b(throw|throws|try|catch|synchronized|assert|finally)\\b");
        none("rule 6", noTexts, "\\b(equals|hashCode|toString)\\b");
        none("rule 10: no joining by +", noTexts, "\"\" *\\+|\\+ *\"\"");
        CHECKS.due("rule 11: classes", Pattern.compile("\\b(class|record|enum|interface) [A-Z]").matcher(noTexts).results().count() <= 12, true);
    }

    private static void lengths(String source) {
        String[] lines = source.split("\n");
        int begin = -1;
        String indent = "";
        for (int i = 0; i < lines.length; i++) {
            Matcher m = Pattern.compile("^( {4}| {8})[A-Za-z].*\\) \\{$").matcher(lines[i]);
            if (begin < 0 && m.find() && !lines[i].contains(" class ")) {
                begin = i;
                indent = m.group(1);
            } else if (begin >= 0 && lines[i].equals(indent + "}")) {
                CHECKS.due("rule 11: at most 60 lines" + lines[begin], i - begin < 60, true);
                begin = -1;
            }
        }
    }

    /** By names alone (so rather too deep than not): how deep calls go, each of a recursion once. */
    private static void depths(String source) {
        String bare = bare(source).replaceAll("\"[^\"]*\"", "\"\"");
        Matcher m = Pattern.compile("\n( {4}| {8})((?:public |private |static |final )*)[\\w\\[\\]]+ (\\w+)\\([^)]*\\) \\{\n(.*?)\n\\1\\}", Pattern.DOTALL).matcher(bare);
        List<String> names = new ArrayList<>();
        List<String> bodies = new ArrayList<>();
        while (m.find()) {
            names.add(m.group(3));
            bodies.add(m.group(4));
        }
        CHECKS.due("methods are found", names.size() > 120, true);
        for (String name : new TreeSet<>(names)) {
            if (FACE.stream().anyMatch(f -> f.contains(" " + name + "("))) {
                int deep = deepest(name, names, bodies, new ArrayList<>());
                CHECKS.due("rule 11: calls of " + name + " go " + deep + " deep", deep <= 8, true);
            }
        }
    }

    private static int deepest(String name, List<String> names, List<String> bodies, List<String> open) {
        if (open.contains(name)) {
            return 0;
        }
        open.add(name);
        int deepest = 0;
        for (int i = 0; i < names.size(); i++) {
            if (names.get(i).equals(name)) {
                Set<String> called = new HashSet<>();
                Matcher m = Pattern.compile("\\b(\\w+)\\(").matcher(bodies.get(i));
                while (m.find()) {
                    if (names.contains(m.group(1))) {
                        called.add(m.group(1));
                    }
                }
                for (String next : called) {
                    deepest = Math.max(deepest, deepest(next, names, bodies, open));
                }
            }
        }
        open.remove(open.size() - 1);
        return deepest + 1;
    }

    private static void face() throws Exception {
        Class<?> face = ElmKite.class;
        CHECKS.due("public and final", Modifier.isPublic(face.getModifiers()) && Modifier.isFinal(face.getModifiers()), true);
        List<Member> members = new ArrayList<>();
        members.addAll(Arrays.asList(face.getDeclaredMethods()));
        members.addAll(Arrays.asList(face.getDeclaredFields()));
        members.addAll(Arrays.asList(face.getDeclaredConstructors()));
        Set<String> open = new TreeSet<>();
        for (Member member : members) {
            if (!Modifier.isPrivate(member.getModifiers())) {
                CHECKS.due("open members are public: " + member, Modifier.isPublic(member.getModifiers()), true);
                open.add(member instanceof Method method ? signature(method) : member instanceof Field ? member.getName() : "ElmKite");
            }
        }
        Set<String> due = new TreeSet<>(FACE);
        due.add("NONE");
        due.add("ElmKite");
        CHECKS.due("the face: " + open, open.equals(due), true);
        Field none = face.getField("NONE");
        CHECKS.due("NONE is static final", Modifier.isStatic(none.getModifiers()) && Modifier.isFinal(none.getModifiers()), true);
        for (Constructor<?> constructor : face.getDeclaredConstructors()) {
            CHECKS.due("one constructor", constructor.getParameterCount(), 0);
        }
    }

    private static String signature(Method method) {
        StringBuilder text = new StringBuilder(method.getReturnType() + " " + method.getName() + "(");
        for (Class<?> type : method.getParameterTypes()) {
            text.append(text.charAt(text.length() - 1) == '(' ? "" : ",").append(type);
        }
        return text + ")";
    }

    private static void inside() {
        Set<String> publicNames = new HashSet<>();
        for (String signature : FACE) {
            publicNames.add(signature.substring(signature.indexOf(' ') + 1, signature.indexOf('(')));
        }
        List<Class<?>> all = new ArrayList<>(Arrays.asList(ElmKite.class.getDeclaredClasses()));
        for (Class<?> one : all) {
            CHECKS.due("rule 1: " + one + " isn't open", (one.getModifiers() & (Modifier.PUBLIC | Modifier.PROTECTED)) == 0, true);
            CHECKS.due("rule 2: " + one + " is static", Modifier.isStatic(one.getModifiers()), true);
        }
        all.add(ElmKite.class);
        for (Class<?> one : all) {
            int fields = 0;
            for (Field field : one.getDeclaredFields()) {
                if (Modifier.isStatic(field.getModifiers())) {
                    CHECKS.due("rule 5: " + field, Modifier.isFinal(field.getModifiers()), true);
                } else {
                    fields++;
                }
            }
            CHECKS.due("rule 11: fields of " + one + ": " + fields, fields <= 20, true);
            for (Method method : one.getDeclaredMethods()) {
                CHECKS.due("rule 11: " + method, method.getParameterCount() <= 7, true);
                boolean ofFace = one == ElmKite.class && Modifier.isPublic(method.getModifiers());
                CHECKS.due("rule 1: " + method, !ofFace && publicNames.contains(method.getName()), false);
            }
        }
    }
}
