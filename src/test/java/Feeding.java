/** Feeds whole texts, eight signs a long. */
final class Feeding {
    private Feeding() {
    }

    static long packed(String text, int from) {
        long eight = 0;
        for (int i = from; i < from + 8; i++) {
            eight = eight << 8 | (i < text.length() ? text.charAt(i) : 0);
        }
        return eight;
    }

    static void feed(ElmKite kite, String text) {
        for (int from = 0; from < text.length(); from += 24) {
            kite.feed(packed(text, from), packed(text, from + 8), packed(text, from + 16));
        }
    }

    static int tree(ElmKite kite, String text) {
        feed(kite, text);
        return kite.tree();
    }

    static int afternoon(ElmKite kite, String text) {
        feed(kite, text);
        return kite.afternoon();
    }

    static ElmKite told(String text) {
        ElmKite kite = new ElmKite();
        int fault = tree(kite, text);
        if (fault != 0) {
            throw new IllegalStateException("fault " + fault + " in " + text);
        }
        return kite;
    }
}
