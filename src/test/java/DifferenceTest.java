/** Holds ElmKite against Model, the document written a second time, over many runs of calls. */
public final class DifferenceTest {
    private static final int RUNS = Integer.getInteger("runs", 600);
    private static final int FIRST = Integer.getInteger("first", 1);

    private final Checks checks;
    private final int run;
    private final Texts by;
    private ElmKite kite = new ElmKite();
    private Model model = new Model();

    private DifferenceTest(Checks checks, int run) {
        this.checks = checks;
        this.run = run;
        this.by = new Texts(run);
    }

    public static void main(String[] args) {
        Checks checks = new Checks();
        for (int run = FIRST; run < FIRST + RUNS; run++) {
            new DifferenceTest(checks, run).play();
        }
        checks.end("DifferenceTest");
    }

    private void due(String call, long got, long want) {
        checks.due("run " + run + ": " + call, got, want);
    }

    private void due(String call, boolean got, boolean want) {
        checks.due("run " + run + ": " + call, got, want);
    }

    private void feed(String text) {
        for (int from = 0; from < text.length(); from += 24) {
            long a = Feeding.packed(text, from);
            long b = Feeding.packed(text, from + 8);
            long c = Feeding.packed(text, from + 16);
            due("feed", kite.feed(a, b, c), model.feed(a, b, c));
        }
    }

    private void tellTree(boolean whole) {
        String text = by.tree();
        text = whole ? text : by.spoilt(text);
        feed(text);
        due("tree() of " + text, kite.tree(), model.tree());
    }

    private void tellAfternoon() {
        String text = by.afternoon();
        text = by.oneIn(3) && !text.isEmpty() ? by.spoilt(text) : text;
        feed(text);
        due("afternoon() of " + text, kite.afternoon(), model.afternoon());
    }

    private void play() {
        int calls = 40 + by.below(160);
        if (!by.oneIn(20)) {
            tellTree(true);
        }
        for (int i = 0; i < calls; i++) {
            int what = by.below(100);
            if (what < 2) {
                tellTree(by.oneIn(3));
            } else if (what < 6) {
                tellAfternoon();
            } else if (what < 48) {
                tryByHand();
            } else {
                ask(by.below(22));
            }
        }
        askAll();
    }

    private int side() {
        return by.oneIn(25) ? by.below(8) - 2 : by.below(4);
    }

    private int twig() {
        return by.oneIn(25) ? by.below(14) - 3 : by.below(8);
    }

    private int thing() {
        return by.oneIn(25) ? by.below(9) - 2 : by.below(4);
    }

    private int upTo(int most) {
        return by.oneIn(12) ? by.below(most + 5) - 2 : by.below(most + 1);
    }

    private void tryByHand() {
        int side = side();
        boolean hard = by.oneIn(2);
        switch (by.below(14)) {
            case 0: case 1: case 2: case 3: {
                int end = by.oneIn(3) ? upTo(2) : by.oneIn(4) ? 0 : 1;
                due("pull(" + side + ", " + hard + ", " + end + ")", kite.pull(side, hard, end), model.pull(side, hard, end));
                break;
            }
            case 4: case 5: due("slack()", kite.slack(), model.slack()); break;
            case 6: due("lifts()", kite.lifts(), model.lifts()); break;
            case 7: case 8: {
                int thing = thing();
                int end = upTo(2);
                due("hurl(" + thing + ", " + end + ")", kite.hurl(thing, end), model.hurl(thing, end));
                break;
            }
            case 9: {
                int twig = twig();
                due("climb(" + twig + ", " + hard + ")", kite.climb(twig, hard), model.climb(twig, hard));
                break;
            }
            case 10: due("hour(" + side + ")", kite.hour(side), model.hour(side)); break;
            case 11: case 12: due("undo()", kite.undo(), model.undo()); break;
            default: {
                int mark = by.oneIn(20) ? by.below(8) - 2 : by.below(4);
                due("mark(" + mark + ", " + hard + ")", kite.mark(mark, hard), model.mark(mark, hard));
                break;
            }
        }
        due("count(5)", kite.count(5), model.count(5));
        due("worth()", kite.worth(), model.worth());
    }

    private void ask(int which) {
        int what = upTo(1);
        int side = side();
        switch (which) {
            case 0: {
                int twig = twig();
                int of = upTo(5);
                due("twig(" + twig + ", " + of + ")", kite.twig(twig, of), model.twig(twig, of));
                break;
            }
            case 1: {
                int thing = thing();
                int of = upTo(3);
                due("thing(" + thing + ", " + of + ")", kite.thing(thing, of), model.thing(thing, of));
                break;
            }
            case 2: {
                boolean hard = by.oneIn(2);
                due("chance(" + side + ", " + hard + ", " + what + ")", kite.chance(side, hard, what), model.chance(side, hard, what));
                break;
            }
            case 3: due("judged(" + what + ")", kite.judged(what), model.judged(what)); break;
            case 4: due("worth()", kite.worth(), model.worth()); break;
            case 5: {
                int tries = by.oneIn(4) ? upTo(6) : by.below(4);
                due("next(" + tries + ", " + what + ")", kite.next(tries, what), model.next(tries, what));
                break;
            }
            case 6: case 7: {
                boolean ran = by.oneIn(3);
                due("tell(" + side + ", " + ran + ")", kite.tell(side, ran), model.tell(side, ran));
                break;
            }
            case 8: due("fits()", kite.fits(), model.fits()); break;
            case 9: due("likely(" + what + ")", kite.likely(what), model.likely(what)); break;
            case 10: due("tells()", kite.tells(), model.tells()); break;
            case 11: {
                int steps = upTo(by.oneIn(2) ? 5 : 20);
                due("cut(" + side + ", " + steps + ", " + what + ")", kite.cut(side, steps, what), model.cut(side, steps, what));
                break;
            }
            case 12: case 13: {
                int hours = upTo(48);
                due("waits(" + side + ", " + hours + ")", kite.waits(side, hours), model.waits(side, hours));
                break;
            }
            default: askMore(which, what, side);
        }
    }

    private void askMore(int which, int what, int side) {
        int x = upTo(15);
        int y = upTo(15);
        switch (which) {
            case 14: due("lasts()", kite.lasts(), model.lasts()); break;
            case 15: {
                int twig = twig();
                due("far(" + twig + ")", kite.far(twig), model.far(twig));
                due("minutes(" + twig + ")", kite.minutes(twig), model.minutes(twig));
                break;
            }
            case 16: due("safe(" + x + ", " + y + ")", kite.safe(x, y), model.safe(x, y)); break;
            case 17: {
                int by4 = by.oneIn(3) ? -1 : side;
                due("places(" + by4 + ")", kite.places(by4), model.places(by4));
                break;
            }
            case 18: due("nearest(" + x + ", " + y + ")", kite.nearest(x, y), model.nearest(x, y)); break;
            case 19: {
                int thing = by.oneIn(4) ? -1 : thing();
                due("came(" + thing + ", " + what + ")", kite.came(thing, what), model.came(thing, what));
                break;
            }
            case 20: {
                int seed = by.oneIn(20) ? by.below(3) * 5000 - 1 : by.below(10000);
                int many = upTo(20);
                int tries = by.oneIn(4) ? upTo(6) : 1 + by.below(3);
                int of = upTo(2);
                due("afternoons(" + seed + ", " + many + ", " + tries + ", " + of + ")",
                    kite.afternoons(seed, many, tries, of), model.afternoons(seed, many, tries, of));
                break;
            }
            default: {
                int of = upTo(12);
                due("count(" + of + ")", kite.count(of), model.count(of));
                break;
            }
        }
    }

    /** How it stands at the end of a run. */
    private void askAll() {
        for (int what = -1; what <= 13; what++) {
            due("count(" + what + ")", kite.count(what), model.count(what));
        }
        for (int twig = 0; twig < 8; twig++) {
            for (int what = 0; what < 6; what++) {
                due("twig(" + twig + ", " + what + ")", kite.twig(twig, what), model.twig(twig, what));
            }
        }
        for (int i = 0; i < 17 && kite.undo(); i++) {
            due("undo()", true, model.undo());
            due("worth()", kite.worth(), model.worth());
            due("count(2)", kite.count(2), model.count(2));
            due("count(6)", kite.count(6), model.count(6));
        }
        due("undo()", kite.undo(), model.undo());
    }
}
