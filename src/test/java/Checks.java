/** Counts answers that are not the ones due, and prints them. */
final class Checks {
    private int wrong;
    private int asked;
    private String sentence = "";

    /** What is asked from here on belongs to a sentence of the document. */
    void of(String words) {
        sentence = "\"" + words + "\": ";
    }

    void due(String call, long got, long want) {
        asked++;
        if (got != want) {
            wrong++;
            System.out.println(sentence + call + " answered " + got + ", due is " + want);
        }
    }

    void due(String call, boolean got, boolean want) {
        due(call, got ? 1 : 0, want ? 1 : 0);
    }

    /** A TREE without a FAULT. */
    void treeStands(String text) {
        due("tree() of " + text, Feeding.tree(new ElmKite(), text), 0);
    }

    /** A TREE with its first FAULT marked by ^ ahead of the token. */
    void treeFault(int kind, String marked) {
        int place = marked.indexOf('^');
        treeFaultAt(kind, place, marked.substring(0, place) + marked.substring(place + 1));
    }

    void treeFaultAt(int kind, int place, String text) {
        due("tree() of " + text, Feeding.tree(new ElmKite(), text), kind + 16L * place);
    }

    /** An AFTERNOON without a FAULT, behind a TREE. */
    void dayStands(String tree, String text) {
        due("afternoon() of " + text, Feeding.afternoon(Feeding.told(tree), text), 0);
    }

    /** An AFTERNOON with its first FAULT marked by ^ ahead of the token. */
    void dayFault(String tree, int kind, String marked) {
        int place = marked.indexOf('^');
        String text = marked.substring(0, place) + marked.substring(place + 1);
        due("afternoon() of " + text, Feeding.afternoon(Feeding.told(tree), text), kind + 16L * place);
    }

    void end(String name) {
        System.out.println(name + ": " + asked + " answers, " + wrong + " not as due");
        if (wrong != 0 || asked == 0) {
            System.exit(1);
        }
    }
}
