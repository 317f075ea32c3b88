import java.util.ArrayDeque;
import java.util.ArrayList;
import java.util.Arrays;
import java.util.Deque;
import java.util.HashMap;
import java.util.HashSet;
import java.util.List;
import java.util.Map;
import java.util.Set;
import java.util.regex.Matcher;
import java.util.regex.Pattern;

/**
 * The document a second time, written without a look at ElmKite and without its tricks: lists, maps and plain
 * recursion. DifferenceTest holds the two against each other.
 */
final class Model {
    private static final Set<String> RESERVED = new HashSet<>(Arrays.asList((
            "twig high thick side on string kite worth paper thing stuck frees over wind lift dew ladder pole weighs "
            + "cord elm run tear pull slack lifts hurl climb poke hour north east south west soft hard runs bites "
            + "tears down sticks not and or").split(" ")));
    private static final List<String> SIDES = List.of("north", "east", "south", "west");

    // ---- what is told

    record Twig(String name, int high, int thick, int side, int on) { }

    record Thing(String name, int worth, int stuck, int frees) { }

    interface Law {
        int of(int tight, int size, int away, int force);
    }

    static final class Told {
        final List<Twig> twigs = new ArrayList<>();
        final List<Thing> things = new ArrayList<>();
        final List<Integer> string = new ArrayList<>();
        final List<List<Integer>> over = new ArrayList<>();
        final List<List<Integer>> elms = new ArrayList<>();
        int kiteWorth = 0;
        int paper = 9;
        int wind = 0;
        int on = 0;
        int back = 0;
        int lift = 0;
        int dew = 0;
        int ladder = 0;
        int pole = 0;
        int weighs = 10;
        int cord = 5;
        Law run = (tight, size, away, force) -> away == 0 ? 10 - tight : away == 1 ? 3 - tight : 0;
        Law tear = (tight, size, away, force) -> tight + 2 * force;

        int twigNamed(String name) {
            for (int i = 0; i < twigs.size(); i++) {
                if (twigs.get(i).name.equals(name)) {
                    return i;
                }
            }
            return -1;
        }

        int thingNamed(String name) {
            for (int i = 0; i < things.size(); i++) {
                if (things.get(i).name.equals(name)) {
                    return i;
                }
            }
            return -1;
        }

        boolean bears(int twig) {
            for (int t = twig; t >= 0; t = twigs.get(t).on) {
                if (twigs.get(t).thick < weighs) {
                    return false;
                }
            }
            return true;
        }
    }

    record Line(String what, int whom, String end) { }

    // ---- how it stands

    static final class State {
        List<Integer> string = new ArrayList<>();
        int[] tight = new int[8];
        int hour = 12;
        int wind = 0;
        String kite = "down";
        int paper = 9;
        Set<Integer> hand = new HashSet<>();

        static State first(Told told) {
            State s = new State();
            s.string.addAll(told.string);
            s.wind = told.wind;
            s.kite = told.string.isEmpty() ? "down" : "up";
            s.paper = told.paper;
            for (int i = 0; i < told.things.size(); i++) {
                s.hand.add(i);
            }
            return s;
        }

        State copy() {
            State s = new State();
            s.string.addAll(string);
            s.tight = tight.clone();
            s.hour = hour;
            s.wind = wind;
            s.kite = kite;
            s.paper = paper;
            s.hand.addAll(hand);
            return s;
        }

        boolean up() {
            return kite.equals("up");
        }

        int last() {
            return string.get(string.size() - 1);
        }

        void off(int twig) {
            string.remove(Integer.valueOf(twig));
            tight[twig] = 0;
            if (string.isEmpty()) {
                kite = "down";
            }
        }

        void torn() {
            string.clear();
            Arrays.fill(tight, 0);
            kite = "torn";
        }

        String key() {
            return string + " " + Arrays.toString(tight) + " " + wind + " " + kite + " " + (paper > 0) + " " + hand;
        }
    }

    private record Mark(State state, List<int[]> pulls) { }

    private final StringBuilder tape = new StringBuilder();
    private Told tree = new Told();
    private List<Line> lines = new ArrayList<>();
    private State now = new State();
    private List<int[]> pulls = new ArrayList<>();
    private final Deque<State> undone = new ArrayDeque<>();
    private final Mark[] marks = new Mark[4];

    // ---- the language

    private static final class Fault extends RuntimeException {
        private static final long serialVersionUID = 1L;
        final int code;

        Fault(int kind, int place) {
            code = kind + 16 * place;
        }
    }

    private record Token(String text, int place) { }

    private static final class Reader {
        private static final Pattern PIECE = Pattern.compile("[ \n]+|[a-z]+|[0-9]+|[()<=+*;-]|[\\s\\S]");
        final List<Token> tokens = new ArrayList<>();
        int next = 0;

        Reader(String text) {
            Matcher m = PIECE.matcher(text);
            while (m.find()) {
                String piece = m.group();
                if (!piece.isBlank()) {
                    tokens.add(new Token(piece, m.start()));
                }
            }
            tokens.add(new Token("", text.length()));
        }

        String text() {
            return tokens.get(next).text;
        }

        boolean atEnd() {
            return text().isEmpty();
        }

        Fault wrong(int kind) {
            return new Fault(kind, tokens.get(next).place);
        }

        void the(String word) {
            if (!text().equals(word)) {
                throw wrong(1);
            }
            next++;
        }

        boolean maybe(String word) {
            if (text().equals(word)) {
                next++;
                return true;
            }
            return false;
        }

        int among(List<String> words) {
            int i = words.indexOf(text());
            if (i < 0) {
                throw wrong(1);
            }
            next++;
            return i;
        }

        boolean isNumber() {
            return text().matches("[0-9]{1,4}");
        }

        boolean isName() {
            return text().matches("[a-z]{1,8}") && !RESERVED.contains(text());
        }

        void mustBeName() {
            if (!isName()) {
                throw wrong(1);
            }
        }

        int number(int low, int high) {
            if (!isNumber()) {
                throw wrong(1);
            }
            int n = Integer.parseInt(text());
            if (n < low || n > high) {
                throw wrong(4);
            }
            next++;
            return n;
        }

        String fresh(Told told) {
            mustBeName();
            if (told.twigNamed(text()) >= 0 || told.thingNamed(text()) >= 0) {
                throw wrong(3);
            }
            return tokens.get(next++).text;
        }

        int known(int index) {
            mustBeName();
            if (index < 0) {
                throw wrong(2);
            }
            return index;
        }
    }

    private static Told readTree(String text) {
        Told told = new Told();
        Reader r = new Reader(text);
        Set<String> once = new HashSet<>();
        while (!r.atEnd()) {
            String word = r.text();
            switch (word) {
                case "twig": if (told.twigs.size() == 8) throw r.wrong(5); break;
                case "thing": if (told.things.size() == 4) throw r.wrong(5); break;
                case "elm": if (told.elms.size() == 8) throw r.wrong(5); break;
                case "over": break;
                case "string": case "kite": case "wind": case "lift": case "dew": case "ladder": case "weighs":
                case "cord": case "run": case "tear":
                    if (!once.add(word)) throw r.wrong(3);
                    break;
                default: throw r.wrong(1);
            }
            r.next++;
            readRest(told, r, word);
            r.the(";");
        }
        return told;
    }

    private static void readRest(Told told, Reader r, String word) {
        if (word.equals("twig")) {
            String name = r.fresh(told);
            r.the("high");
            int high = r.number(1, 60);
            r.the("thick");
            int thick = r.number(1, 20);
            r.the("side");
            int side = r.among(SIDES);
            int on = -1;
            if (r.maybe("on")) {
                on = r.known(told.twigNamed(r.text()));
                r.next++;
            }
            told.twigs.add(new Twig(name, high, thick, side, on));
        } else if (word.equals("string")) {
            do {
                int twig = r.known(told.twigNamed(r.text()));
                if (told.string.contains(twig)) throw r.wrong(3);
                if (told.string.size() == 6) throw r.wrong(5);
                told.string.add(twig);
                r.next++;
            } while (!r.text().equals(";"));
        } else if (word.equals("kite")) {
            r.the("worth");
            told.kiteWorth = r.number(0, 999);
            r.the("paper");
            told.paper = r.number(0, 99);
        } else if (word.equals("thing")) {
            String name = r.fresh(told);
            r.the("worth");
            int worth = r.number(0, 999);
            r.the("stuck");
            int stuck = r.number(0, 10);
            r.the("frees");
            int frees = r.number(0, 10 - stuck);
            told.things.add(new Thing(name, worth, stuck, frees));
        } else if (word.equals("over")) {
            int one = r.known(told.thingNamed(r.text()));
            r.next++;
            int two = r.known(told.thingNamed(r.text()));
            if (one == two || told.over.contains(List.of(one, two))) throw r.wrong(3);
            told.over.add(List.of(one, two));
            r.next++;
        } else if (word.equals("wind")) {
            told.wind = r.among(SIDES);
            told.on = r.number(0, 10);
            told.back = r.number(0, 10 - told.on);
        } else if (word.equals("lift")) {
            told.lift = r.number(0, 10);
        } else if (word.equals("dew")) {
            told.dew = r.number(0, 9);
        } else if (word.equals("ladder")) {
            told.ladder = r.number(0, 60);
            r.the("pole");
            told.pole = r.number(0, 60);
        } else if (word.equals("weighs")) {
            told.weighs = r.number(1, 99);
        } else if (word.equals("cord")) {
            told.cord = r.number(1, 15);
        } else if (word.equals("elm")) {
            int x = r.number(0, 15);
            int y = r.number(0, 15);
            if (told.elms.contains(List.of(x, y))) {
                r.next--;
                throw r.wrong(3);
            }
            told.elms.add(List.of(x, y));
        } else if (word.equals("run")) {
            told.run = readE(r, 0);
        } else {
            told.tear = readE(r, 0);
        }
    }

    private static int truth(boolean so) {
        return so ? 1 : 0;
    }

    private static Law readE(Reader r, int within) {
        Law left = readTest(r, within);
        while (true) {
            Law one = left;
            if (r.maybe("and")) {
                Law two = readTest(r, within);
                left = (t, s, a, f) -> truth(one.of(t, s, a, f) != 0 & two.of(t, s, a, f) != 0);
            } else if (r.maybe("or")) {
                Law two = readTest(r, within);
                left = (t, s, a, f) -> truth(one.of(t, s, a, f) != 0 | two.of(t, s, a, f) != 0);
            } else {
                return left;
            }
        }
    }

    private static Law readTest(Reader r, int within) {
        Law one = readSum(r, within);
        if (r.maybe("<")) {
            Law two = readSum(r, within);
            return (t, s, a, f) -> truth(one.of(t, s, a, f) < two.of(t, s, a, f));
        }
        if (r.maybe("=")) {
            Law two = readSum(r, within);
            return (t, s, a, f) -> truth(one.of(t, s, a, f) == two.of(t, s, a, f));
        }
        return one;
    }

    private static Law readSum(Reader r, int within) {
        Law left = readProduct(r, within);
        while (true) {
            Law one = left;
            if (r.maybe("+")) {
                Law two = readProduct(r, within);
                left = (t, s, a, f) -> one.of(t, s, a, f) + two.of(t, s, a, f);
            } else if (r.maybe("-")) {
                Law two = readProduct(r, within);
                left = (t, s, a, f) -> one.of(t, s, a, f) - two.of(t, s, a, f);
            } else {
                return left;
            }
        }
    }

    private static Law readProduct(Reader r, int within) {
        Law left = readPart(r, within);
        while (r.maybe("*")) {
            Law one = left;
            Law two = readPart(r, within);
            left = (t, s, a, f) -> one.of(t, s, a, f) * two.of(t, s, a, f);
        }
        return left;
    }

    private static Law readPart(Reader r, int within) {
        String text = r.text();
        boolean fact = List.of("tight", "size", "away", "force").contains(text);
        if (!fact && !r.isNumber() && !text.equals("not") && !text.equals("(")) {
            throw r.wrong(1);
        }
        if (within >= 5) {
            throw r.wrong(5);
        }
        r.next++;
        switch (text) {
            case "tight": return (t, s, a, f) -> t;
            case "size": return (t, s, a, f) -> s;
            case "away": return (t, s, a, f) -> a;
            case "force": return (t, s, a, f) -> f;
            case "not": {
                Law one = readPart(r, within + 1);
                return (t, s, a, f) -> truth(one.of(t, s, a, f) == 0);
            }
            case "(": {
                Law one = readE(r, within + 1);
                r.the(")");
                return one;
            }
            default: {
                int number = Integer.parseInt(text);
                return (t, s, a, f) -> number;
            }
        }
    }

    private List<Line> readAfternoon(String text) {
        List<Line> read = new ArrayList<>();
        Reader r = new Reader(text);
        while (!r.atEnd()) {
            String word = r.text();
            if (!List.of("pull", "slack", "lifts", "hurl", "climb", "poke", "hour").contains(word)) {
                throw r.wrong(1);
            }
            if (read.size() == 24) {
                throw r.wrong(5);
            }
            r.next++;
            switch (word) {
                case "pull": {
                    int side = r.among(SIDES);
                    int hard = r.among(List.of("soft", "hard"));
                    int end = r.among(List.of("runs", "bites", "tears"));
                    read.add(new Line(hard == 1 ? "hard" : "soft", side, List.of("runs", "bites", "tears").get(end)));
                    break;
                }
                case "slack": case "lifts": read.add(new Line(word, 0, "")); break;
                case "hurl": {
                    int thing = r.known(tree.thingNamed(r.text()));
                    r.next++;
                    int end = r.among(List.of("down", "sticks", "frees"));
                    read.add(new Line(word, thing, List.of("down", "sticks", "frees").get(end)));
                    break;
                }
                case "climb": case "poke": {
                    int twig = r.known(tree.twigNamed(r.text()));
                    r.next++;
                    read.add(new Line(word, twig, ""));
                    break;
                }
                default: read.add(new Line(word, r.among(SIDES), "")); break;
            }
            r.the(";");
        }
        return read;
    }

    // ---- chances and tries

    private static int ofTen(int told) {
        return told < 0 ? 0 : told > 10 ? 10 : told;
    }

    private static int between(int one, int two) {
        int on = ((one - two) % 4 + 4) % 4;
        return on == 3 ? 1 : on;
    }

    private int run(int twig, int tight, int side, boolean hard) {
        Twig t = tree.twigs.get(twig);
        return ofTen(tree.run.of(tight, t.thick, between(side, t.side), hard ? 1 : 0));
    }

    private int tear(int twig, int tight, int side, boolean hard) {
        Twig t = tree.twigs.get(twig);
        return ofTen(tree.tear.of(tight, t.thick, between(side, t.side), hard ? 1 : 0));
    }

    private int worthOf(State s) {
        int sum = s.kite.equals("down") && s.paper != 0 ? tree.kiteWorth : 0;
        for (int thing : s.hand) {
            sum += tree.things.get(thing).worth;
        }
        return sum;
    }

    /** The state behind a line, or null: it can't be. */
    private State behind(State s, Line line) {
        State n = s.copy();
        switch (line.what) {
            case "hour":
                n.hour = s.hour == 23 ? 0 : s.hour + 1;
                n.wind = line.whom;
                if (s.up() && (n.hour >= 20 || n.hour < 6)) {
                    n.paper = Math.max(0, s.paper - tree.dew);
                }
                return n;
            case "soft": case "hard": {
                if (!s.up()) return null;
                boolean hard = line.what.equals("hard");
                int last = s.last();
                int run = run(last, s.tight[last], line.whom, hard);
                int tear = tear(last, s.tight[last], line.whom, hard);
                if (line.end.equals("runs")) {
                    if (run == 0) return null;
                    n.off(last);
                } else if (line.end.equals("tears")) {
                    if (run == 10 || tear == 0) return null;
                    n.torn();
                } else {
                    if (run == 10 || tear == 10) return null;
                    n.tight[last] = Math.min(9, s.tight[last] + (hard ? 2 : 1));
                }
                return n;
            }
            case "slack":
                if (!s.up() || s.tight[s.last()] == 0) return null;
                n.tight[s.last()]--;
                return n;
            case "lifts":
                if (!canLift(s)) return null;
                n.off(s.last());
                return n;
            case "hurl": {
                if (!s.up() || !s.hand.contains(line.whom)) return null;
                Thing thing = tree.things.get(line.whom);
                if (line.end.equals("sticks")) {
                    if (thing.stuck == 0) return null;
                    n.hand.remove(line.whom);
                } else if (line.end.equals("frees")) {
                    if (thing.frees == 0) return null;
                    n.off(s.last());
                } else if (thing.stuck + thing.frees == 10) {
                    return null;
                }
                return n;
            }
            case "climb":
                if (!s.string.contains(line.whom) || !tree.bears(line.whom)) return null;
                n.off(line.whom);
                return n;
            default:
                if (!s.string.contains(line.whom)) return null;
                if (tree.twigs.get(line.whom).high > tree.ladder + tree.pole) return null;
                n.off(line.whom);
                return n;
        }
    }

    private boolean canLift(State s) {
        return s.up() && s.wind == tree.twigs.get(s.last()).side && s.tight[s.last()] == 0 && tree.lift > 0;
    }

    private boolean does(Line line) {
        State n = behind(now, line);
        if (n == null) {
            return false;
        }
        undone.push(now);
        if (undone.size() > 16) {
            undone.removeLast();
        }
        now = n;
        return true;
    }

    // ---- NEXT

    private long[] best(State s, int tries, Map<String, long[]> seen) {
        long[] best = {1000L * worthOf(s), 0};
        if (tries == 0 || !s.up()) {
            return best;
        }
        String key = tries + " " + s.key();
        if (seen.containsKey(key)) {
            return seen.get(key);
        }
        List<Long> means = new ArrayList<>();
        for (int option = 1; option <= 8; option++) {
            String how = option <= 4 ? "soft" : "hard";
            int side = (option - 1) % 4;
            int last = s.last();
            long run = run(last, s.tight[last], side, option > 4);
            long tear = tear(last, s.tight[last], side, option > 4);
            long sum = share(s, new Line(how, side, "runs"), run * 10, tries, seen)
                    + share(s, new Line(how, side, "tears"), (10 - run) * tear, tries, seen)
                    + share(s, new Line(how, side, "bites"), (10 - run) * (10 - tear), tries, seen);
            means.add(sum / 100);
        }
        means.add(s.tight[s.last()] > 0 ? share(s, new Line("slack", 0, ""), 1, tries, seen) : -1L);
        means.add(canLift(s) ? (share(s, new Line("lifts", 0, ""), tree.lift, tries, seen)
                + (10 - tree.lift) * best(s, tries - 1, seen)[0]) / 10 : -1L);
        for (int i = 0; i < tree.things.size(); i++) {
            Thing t = tree.things.get(i);
            means.add(!s.hand.contains(i) ? -1L : (share(s, new Line("hurl", i, "down"), 10 - t.stuck - t.frees, tries, seen)
                    + share(s, new Line("hurl", i, "sticks"), t.stuck, tries, seen)
                    + share(s, new Line("hurl", i, "frees"), t.frees, tries, seen)) / 10);
        }
        for (int i = 0; i < means.size(); i++) {
            if (means.get(i) > best[0]) {
                best = new long[] {means.get(i), i + 1};
            }
        }
        seen.put(key, best);
        return best;
    }

    private long share(State s, Line line, long weight, int tries, Map<String, long[]> seen) {
        return weight == 0 ? 0 : weight * best(behind(s, line), tries - 1, seen)[0];
    }

    // ---- the face

    int feed(long a, long b, long c) {
        for (long eight : new long[] {a, b, c}) {
            for (int i = 7; i >= 0; i--) {
                char sign = (char) (eight >> 8 * i & 0xff);
                if ((sign == 10 || sign >= 32 && sign <= 126) && tape.length() < 1000) {
                    tape.append(sign);
                }
            }
        }
        return tape.length();
    }

    int tree() {
        String text = tape.toString();
        tape.setLength(0);
        try {
            tree = readTree(text);
        } catch (Fault fault) {
            return fault.code;
        }
        lines = new ArrayList<>();
        now = State.first(tree);
        pulls = new ArrayList<>();
        undone.clear();
        Arrays.fill(marks, null);
        return 0;
    }

    int afternoon() {
        String text = tape.toString();
        tape.setLength(0);
        try {
            lines = readAfternoon(text);
        } catch (Fault fault) {
            return fault.code;
        }
        return 0;
    }

    int twig(int twig, int what) {
        if (twig < 0 || twig >= tree.twigs.size() || what < 0 || what > 5) return -1;
        Twig t = tree.twigs.get(twig);
        return new int[] {t.high, t.thick, t.side, t.on, now.tight[twig], truth(now.string.contains(twig))}[what];
    }

    int thing(int thing, int what) {
        if (thing < 0 || thing >= tree.things.size() || what < 0 || what > 3) return -1;
        Thing t = tree.things.get(thing);
        return new int[] {t.worth, t.stuck, t.frees, truth(now.hand.contains(thing))}[what];
    }

    int chance(int side, boolean hard, int what) {
        if (side < 0 || side > 3 || what < 0 || what > 1 || !now.up()) return -1;
        int last = now.last();
        return what == 0 ? run(last, now.tight[last], side, hard) : tear(last, now.tight[last], side, hard);
    }

    int pull(int side, boolean hard, int end) {
        if (side < 0 || side > 3 || end < 0 || end > 2) return -1;
        boolean can = does(new Line(hard ? "hard" : "soft", side, List.of("runs", "bites", "tears").get(end)));
        return can ? now.string.size() : -1;
    }

    int slack() {
        return does(new Line("slack", 0, "")) ? now.tight[now.last()] : -1;
    }

    boolean lifts() {
        return does(new Line("lifts", 0, ""));
    }

    int hurl(int thing, int end) {
        if (thing < 0 || thing >= tree.things.size() || end < 0 || end > 2) return -1;
        return does(new Line("hurl", thing, List.of("down", "sticks", "frees").get(end))) ? now.string.size() : -1;
    }

    boolean climb(int twig, boolean poke) {
        return does(new Line(poke ? "poke" : "climb", twig, ""));
    }

    int hour(int side) {
        if (side < 0 || side > 3) return -1;
        does(new Line("hour", side, ""));
        return now.hour;
    }

    boolean undo() {
        if (undone.isEmpty()) return false;
        now = undone.pop();
        return true;
    }

    int judged(int what) {
        if (what < 0 || what > 1) return -2;
        State s = State.first(tree);
        int wrong = -1;
        for (int i = 0; i < lines.size(); i++) {
            State n = behind(s, lines.get(i));
            if (n != null) {
                s = n;
            } else if (wrong < 0) {
                wrong = i;
            }
        }
        return what == 0 ? wrong : worthOf(s);
    }

    int worth() {
        return worthOf(now);
    }

    int next(int tries, int what) {
        if (tries < 0 || tries > 6 || what < 0 || what > 1) return -1;
        return (int) best(now, tries, new HashMap<>())[what];
    }

    boolean tell(int side, boolean ran) {
        if (side < 0 || side > 3 || pulls.size() == 12) return false;
        pulls.add(new int[] {side, truth(ran)});
        return true;
    }

    private long product(int twig) {
        long product = 1;
        for (int[] pull : pulls) {
            int run = run(twig, 0, pull[0], false);
            product *= pull[1] == 1 ? run : 10 - run;
        }
        return product;
    }

    int fits() {
        int bits = 0;
        for (int i = 0; i < tree.twigs.size(); i++) {
            bits += product(i) > 0 ? 1 << i : 0;
        }
        return bits;
    }

    int likely(int what) {
        if (fits() == 0 || what < 0 || what > 1) return -1;
        int twig = 0;
        java.math.BigInteger sum = java.math.BigInteger.ZERO;
        for (int i = 0; i < tree.twigs.size(); i++) {
            twig = product(i) > product(twig) ? i : twig;
            sum = sum.add(java.math.BigInteger.valueOf(product(i)));
        }
        java.math.BigInteger part = java.math.BigInteger.valueOf(product(twig));
        return what == 0 ? twig : part.multiply(java.math.BigInteger.valueOf(1000000)).divide(sum).intValue();
    }

    int tells() {
        if (fits() == 0) return -1;
        int side = -1;
        long most = -1;
        for (int s = 0; s < 4; s++) {
            long ran = 0;
            long not = 0;
            for (int i = 0; i < tree.twigs.size(); i++) {
                ran = Math.max(ran, product(i) * run(i, 0, s, false));
                not = Math.max(not, product(i) * (10 - run(i, 0, s, false)));
            }
            if (ran + not > most) {
                most = ran + not;
                side = s;
            }
        }
        return side;
    }

    int cut(int side, int steps, int what) {
        if (side < 0 || side > 3 || steps < 0 || steps > 20 || what < 0 || what > 1 || !now.up()) return -1;
        List<Integer> left = new ArrayList<>(now.string);
        int at = side;
        int yet = steps;
        while (!left.isEmpty()) {
            int to = tree.twigs.get(left.get(left.size() - 1)).side;
            if (between(at, to) > yet) {
                break;
            }
            yet -= between(at, to);
            at = to;
            left.remove(left.size() - 1);
        }
        int lost = 0;
        for (int i = 1; i < left.size(); i++) {
            lost += 1 + Math.abs(tree.twigs.get(left.get(i)).high - tree.twigs.get(left.get(i - 1)).high);
        }
        return what == 0 ? left.size() : lost;
    }

    int waits(int side, int hours) {
        if (side < 0 || side > 3 || hours < 0 || hours > 48) return -1;
        if (now.paper == 0) return 0;
        int last = 0;
        int paper = now.paper;
        for (int i = 1; i <= hours; i++) {
            int hour = (now.hour + i) % 24;
            paper -= hour >= 20 || hour < 6 ? tree.dew : 0;
            if (paper > 0) {
                last = i;
            }
        }
        return comes(now.wind, side, last, new HashMap<>());
    }

    private int comes(int wind, int side, int hours, Map<Integer, Integer> seen) {
        if (wind == side) return 1000000;
        if (hours == 0) return 0;
        int key = hours * 4 + wind;
        if (!seen.containsKey(key)) {
            seen.put(key, (tree.on * comes((wind + 1) % 4, side, hours - 1, seen)
                    + tree.back * comes((wind + 3) % 4, side, hours - 1, seen)
                    + (10 - tree.on - tree.back) * comes(wind, side, hours - 1, seen)) / 10);
        }
        return seen.get(key);
    }

    int lasts() {
        int paper = now.paper;
        int hour = now.hour;
        for (int i = 0; i <= 240; i++) {
            if (paper <= 0) return i;
            hour = hour == 23 ? 0 : hour + 1;
            paper -= hour >= 20 || hour <= 5 ? tree.dew : 0;
        }
        return -1;
    }

    int far(int twig) {
        if (twig < 0 || twig >= tree.twigs.size()) return -1;
        int feet = -1;
        for (int i = 0; i <= 20; i++) {
            feet = tree.twigs.get(twig).thick - i >= tree.weighs ? i : feet;
        }
        return feet;
    }

    int minutes(int twig) {
        if (twig < 0 || twig >= tree.twigs.size()) return -1;
        int high = tree.twigs.get(twig).high;
        List<Integer> ways = new ArrayList<>();
        if (high <= tree.pole) ways.add(2);
        if (high <= tree.ladder) ways.add(5);
        if (high <= tree.pole + tree.ladder) ways.add(9);
        if (tree.bears(twig)) ways.add(high);
        return ways.stream().mapToInt(i -> i).min().orElse(-1);
    }

    int safe(int x, int y) {
        if (x < 0 || x > 15 || y < 0 || y > 15) return -1;
        int bits = 15;
        for (List<Integer> elm : tree.elms) {
            int ex = elm.get(0) - x;
            int ey = elm.get(1) - y;
            if (ex == 0 && ey >= 0 && ey <= tree.cord) bits &= ~1;
            if (ey == 0 && ex <= 0 && -ex <= tree.cord) bits &= ~2;
            if (ex == 0 && ey <= 0 && -ey <= tree.cord) bits &= ~4;
            if (ey == 0 && ex >= 0 && ex <= tree.cord) bits &= ~8;
        }
        return bits;
    }

    int places(int side) {
        if (side < -1 || side > 3) return -1;
        int sum = 0;
        for (int i = 0; i < 256; i++) {
            int bits = safe(i % 16, i / 16);
            sum += truth(side == -1 ? bits == 15 : (bits >> side & 1) == 1);
        }
        return sum;
    }

    int nearest(int x, int y) {
        if (x < 0 || x > 15 || y < 0 || y > 15) return -1;
        int least = 99;
        for (int i = 0; i < 256; i++) {
            if (safe(i % 16, i / 16) == 15) {
                least = Math.min(least, Math.abs(i % 16 - x) + Math.abs(i / 16 - y));
            }
        }
        return least == 99 ? -1 : least;
    }

    private void rows(List<Integer> row, List<List<Integer>> all) {
        if (row.size() == tree.things.size()) {
            for (List<Integer> pair : tree.over) {
                if (row.indexOf(pair.get(0)) > row.indexOf(pair.get(1))) return;
            }
            all.add(new ArrayList<>(row));
            return;
        }
        for (int i = 0; i < tree.things.size(); i++) {
            if (!row.contains(i)) {
                row.add(i);
                rows(row, all);
                row.remove(row.size() - 1);
            }
        }
    }

    int came(int thing, int what) {
        List<List<Integer>> all = new ArrayList<>();
        rows(new ArrayList<>(), all);
        if (thing == -1) return all.size();
        if (thing < 0 || thing >= tree.things.size() || what < 0 || what > 1 || all.isEmpty()) return -2;
        return what == 0 ? all.stream().mapToInt(r -> r.indexOf(thing)).min().getAsInt()
                : all.stream().mapToInt(r -> r.indexOf(thing)).max().getAsInt();
    }

    private long g;

    private int below(int m) {
        g = (g * 1103515245L + 12345L) % 2147483648L;
        return (int) (g / 65536 % m);
    }

    int afternoons(int seed, int many, int tries, int what) {
        if (seed < 0 || seed > 9999 || many < 1 || many > 20 || tries < 1 || tries > 6 || what < 0 || what > 2) return -1;
        g = seed;
        int[] sums = new int[3];
        Map<String, long[]> seen = new HashMap<>();
        for (int i = 0; i < many; i++) {
            State s = now.copy();
            for (int yet = tries; yet > 0 && s.up(); yet--) {
                int option = (int) best(s, yet, seen)[1];
                if (option == 0) break;
                s = drawn(s, option);
            }
            sums[0] += worthOf(s);
            sums[1] += truth(s.kite.equals("torn") && !now.kite.equals("torn"));
            sums[2] += now.hand.size() - s.hand.size();
        }
        return sums[what];
    }

    private State drawn(State s, int option) {
        if (option <= 8) {
            boolean hard = option > 4;
            int side = (option - 1) % 4;
            int last = s.last();
            String end = "bites";
            if (below(10) < run(last, s.tight[last], side, hard)) {
                end = "runs";
            } else if (below(10) < tear(last, s.tight[last], side, hard)) {
                end = "tears";
            }
            return behind(s, new Line(hard ? "hard" : "soft", side, end));
        }
        if (option == 9) {
            return behind(s, new Line("slack", 0, ""));
        }
        if (option == 10) {
            return below(10) < tree.lift ? behind(s, new Line("lifts", 0, "")) : s;
        }
        Thing thing = tree.things.get(option - 11);
        int d = below(10);
        String end = d < thing.stuck ? "sticks" : d < thing.stuck + thing.frees ? "frees" : "down";
        return behind(s, new Line("hurl", option - 11, end));
    }

    boolean mark(int mark, boolean back) {
        if (mark < 0 || mark > 3 || back && marks[mark] == null) return false;
        if (!back) {
            marks[mark] = new Mark(now, new ArrayList<>(pulls));
        } else {
            now = marks[mark].state;
            pulls = new ArrayList<>(marks[mark].pulls);
            undone.clear();
        }
        return true;
    }

    int count(int what) {
        if (what < 0 || what > 12) return -1;
        return new int[] {tree.twigs.size(), tree.things.size(), now.string.size(), now.hour, now.wind,
            List.of("up", "down", "torn").indexOf(now.kite), now.paper, tree.elms.size(), lines.size(), pulls.size(),
            undone.size(), tape.length(), now.hand.size()}[what];
    }
}
