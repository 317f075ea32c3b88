import java.util.ArrayList;
import java.util.List;

/** Makes trees and afternoons by chance (of a seed, so that each run of the tests is the same), whole or spoilt. */
final class Texts {
    private static final String[] SIDES = {"north", "east", "south", "west"};
    private static final String[] TWIG_NAMES = {"low", "mid", "top", "fork", "size", "tight", "bough", "abcdefgh"};
    private static final String[] THING_NAMES = {"stone", "shoe", "ball", "away"};
    private static final String[] STRAY = {"twig", "high", "thing", "over", "string", "elm", "run", "tear", "on", "not",
        "(", ")", ";", "+", "-", "*", "<", "=", "and", "or", "north", "soft", "runs", "down", "stone", "low", "nobody",
        "0", "1", "7", "11", "61", "100", "1000", "9999", "12345", "abcdefghi", "A", "%", "shoe", "kite", "paper",
        "tight", "force", "slack", "lifts", "hurl", "climb", "poke", "hour", "pull", "hard", "frees", "dew"};

    private static final String[] RUNS = {"9 - 2 * tight - 3 * away", "(away = 0) * (8 - tight) + (away = 1) * 4",
        "size * (away < 2) - tight", "5 + force - away", "7", "10", "0", "tight < 3 and away < 2 or force",
        "12 - size - tight + 2 * (not away)", "2*(tight+force)-away"};
    private static final String[] TEARS = {"tight * force", "1 + force * 4", "(3 < tight) * 6", "0", "10", "3",
        "size < 6 and tight or force", "tight - 2 + away", "2 + tight + 2 * force * (size < 9)"};

    private long g;

    Texts(long seed) {
        g = seed * 7919 + 17;
    }

    int below(int m) {
        g = g * 6364136223846793005L + 1442695040888963407L;
        return (int) Math.floorMod(g >>> 33, (long) m);
    }

    boolean oneIn(int m) {
        return below(m) == 0;
    }

    private String number(int low, int high) {
        return Integer.toString(oneIn(4) ? (oneIn(2) ? low : high) : low + below(high - low + 1));
    }

    private String side() {
        return SIDES[below(4)];
    }

    String tree() {
        List<String> lines = new ArrayList<>();
        int twigs = oneIn(12) ? below(2) : 2 + below(7);
        int things = below(5);
        for (int i = 0; i < twigs; i++) {
            lines.add("twig " + TWIG_NAMES[i] + " high " + number(1, 60) + " thick " + number(1, 20) + " side " + side()
                + (i > 0 && oneIn(2) ? " on " + TWIG_NAMES[below(i)] : "") + " ;");
        }
        for (int i = 0; i < things; i++) {
            int stuck = below(11);
            int frees = below(11 - stuck);
            lines.add("thing " + THING_NAMES[i] + " worth " + number(0, oneIn(2) ? 20 : 999) + " stuck " + stuck
                + " frees " + frees + " ;");
        }
        for (int i = 0; things > 1 && i < 12 && !oneIn(3); i++) {
            int one = below(things);
            int two = below(things);
            String line = "over " + THING_NAMES[one] + " " + THING_NAMES[two] + " ;";
            if ((one < two || one != two && oneIn(5)) && !lines.contains(line)) {
                lines.add(line);
            }
        }
        if (twigs > 0 && !oneIn(10)) {
            lines.add(string(twigs));
        }
        addSingles(lines);
        return String.join(oneIn(3) ? "\n" : " ", lines);
    }

    private String string(int twigs) {
        List<String> left = new ArrayList<>();
        for (int i = 0; i < twigs; i++) {
            left.add(TWIG_NAMES[i]);
        }
        StringBuilder line = new StringBuilder("string");
        int many = Math.min(oneIn(20) ? 7 : 6, 1 + below(twigs));
        for (int i = 0; i < many; i++) {
            line.append(' ').append(left.remove(below(left.size())));
        }
        return line.append(" ;").toString();
    }

    private void addSingles(List<String> lines) {
        List<String> more = new ArrayList<>();
        if (!oneIn(5)) more.add("kite worth " + number(0, 999) + " paper " + number(0, oneIn(2) ? 9 : 99) + " ;");
        int on = below(11);
        if (!oneIn(4)) more.add("wind " + side() + " " + on + " " + below(11 - on) + " ;");
        if (!oneIn(3)) more.add("lift " + number(0, 10) + " ;");
        if (!oneIn(3)) more.add("dew " + number(0, 9) + " ;");
        if (!oneIn(3)) more.add("ladder " + number(0, 60) + " pole " + number(0, 60) + " ;");
        if (!oneIn(3)) more.add("weighs " + number(1, oneIn(4) ? 99 : 15) + " ;");
        if (!oneIn(2)) more.add("cord " + number(1, 15) + " ;");
        int elms = below(9);
        for (int i = 0; i < elms; i++) {
            String elm = "elm " + below(16) + " " + below(16) + " ;";
            if (!more.contains(elm) || oneIn(20)) {
                more.add(elm);
            }
        }
        if (oneIn(2)) more.add("run " + (oneIn(3) ? e(0) : RUNS[below(RUNS.length)]) + " ;");
        if (oneIn(2)) more.add("tear " + (oneIn(3) ? e(0) : TEARS[below(TEARS.length)]) + " ;");
        for (int i = 0; i < more.size(); i++) {
            more.add(more.remove(below(more.size() - i)));
        }
        lines.addAll(more);
    }

    private String e(int depth) {
        StringBuilder e = new StringBuilder(test(depth));
        while (oneIn(6)) {
            e.append(oneIn(2) ? " and " : " or ").append(test(depth));
        }
        return e.toString();
    }

    private String test(int depth) {
        int kind = below(6);
        return kind == 0 ? sum(depth) + " < " + sum(depth) : kind == 1 ? sum(depth) + "=" + sum(depth) : sum(depth);
    }

    private String sum(int depth) {
        StringBuilder sum = new StringBuilder(product(depth));
        while (oneIn(4)) {
            sum.append(oneIn(2) ? "+" : " - ").append(product(depth));
        }
        return sum.toString();
    }

    private String product(int depth) {
        StringBuilder product = new StringBuilder(part(depth));
        while (oneIn(4)) {
            product.append("*").append(part(depth));
        }
        return product.toString();
    }

    private String part(int depth) {
        int kind = below(depth >= 4 && !oneIn(8) ? 7 : 10);
        if (kind < 3 || depth > 7) return oneIn(15) ? "9999" : Integer.toString(below(12));
        if (kind < 7) return new String[] {"tight", "size", "away", "force"}[below(4)];
        if (kind == 7) return "not " + part(depth + 1);
        return "(" + e(depth + 1) + ")";
    }

    String afternoon() {
        StringBuilder text = new StringBuilder();
        int lines = oneIn(10) ? 23 + below(3) : below(15);
        for (int i = 0; i < lines; i++) {
            text.append(line()).append(oneIn(2) ? ";" : " ;\n");
        }
        return text.toString();
    }

    private String line() {
        switch (below(9)) {
            case 0: return "slack";
            case 1: return "lifts";
            case 2: return "hurl " + THING_NAMES[below(3)] + " " + new String[] {"down", "sticks", "frees"}[below(3)];
            case 3: return "climb " + TWIG_NAMES[below(3)];
            case 4: return "poke " + TWIG_NAMES[below(3)];
            case 5: case 6: return "hour " + side();
            default: return "pull " + side() + (oneIn(2) ? " soft " : " hard ")
                + new String[] {"runs", "bites", "bites", "tears"}[below(4)];
        }
    }

    /** A text with something wrong in it, most likely. */
    String spoilt(String text) {
        List<String> words = new ArrayList<>(List.of(text.split("(?<= )|(?= )")));
        for (int i = 0; i <= below(2); i++) {
            int where = below(words.size());
            switch (below(8)) {
                case 0: words.set(where, STRAY[below(STRAY.length)]); break;
                case 5: another(words, where, "[0-9]+", new String[] {"0", "1", "6", "10", "15", "16", "20", "61", "1000"}); break;
                case 6: another(words, where, "low|mid|top|fork|size|stone|shoe|ball|bough", new String[] {"low", "mid", "stone", "shoe", "ball", "nobody"}); break;
                case 7: lineAgain(words); break;
                case 1: words.add(where, " " + STRAY[below(STRAY.length)] + " "); break;
                case 2: words.set(where, ""); break;
                case 3: words.set(where, words.get(where) + words.get(below(words.size()))); break;
                default: words.set(where, words.get(below(words.size()))); break;
            }
        }
        String all = String.join("", words);
        return oneIn(6) ? all.substring(0, below(all.length() + 1)) : all;
    }

    private void another(List<String> words, int from, String like, String[] others) {
        for (int i = from; i < words.size(); i++) {
            if (words.get(i).matches(like)) {
                words.set(i, others[below(others.length)]);
                return;
            }
        }
    }

    private void lineAgain(List<String> words) {
        String[] lines = String.join("", words).split(";", -1);
        String again = lines[below(lines.length)];
        int ahead = below(lines.length);
        words.clear();
        for (int i = 0; i < lines.length; i++) {
            words.add(lines[i] + (i + 1 < lines.length ? ";" : ""));
            if (i == ahead) {
                words.add(again + ";");
            }
        }
    }
}
