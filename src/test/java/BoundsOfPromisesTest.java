/** Promises 1 to 33: what is answered to others and to what can't be, at each bound, one below it and one above it. */
public final class BoundsOfPromisesTest {
    private static final int LEAST = Integer.MIN_VALUE;
    private static final int MOST = Integer.MAX_VALUE;
    private static final int[] OFF = {LEAST, LEAST + 1, -1000, -3, -2, -1};
    private static final String TREE = "twig a high 10 thick 12 side north ; twig b high 20 thick 9 side east on a ; "
        + "twig c high 28 thick 5 side west on b ; string c b a ; kite worth 50 paper 6 ; "
        + "thing p worth 2 stuck 3 frees 2 ; thing q worth 30 stuck 6 frees 4 ; tear 5 ; lift 5 ; wind north 1 1 ; dew 1 ; "
        + "ladder 10 pole 9 ; elm 3 3 ; over p q ; ";

    private static final Checks CHECKS = new Checks();

    private BoundsOfPromisesTest() {
    }

    public static void main(String[] args) {
        newObject();
        feed();
        tree();
        afternoon();
        twig();
        thing();
        chance();
        pull();
        slack();
        lifts();
        hurl();
        climb();
        hour();
        undo();
        judged();
        worth();
        next();
        tell();
        fits();
        likely();
        tells();
        cut();
        waits();
        lasts();
        far();
        minutes();
        safe();
        places();
        nearest();
        came();
        afternoons();
        mark();
        count();
        CHECKS.end("BoundsOfPromisesTest");
    }

    private static void of(String sentence) {
        CHECKS.of(sentence);
    }

    private static void due(String call, long got, long want) {
        CHECKS.due(call, got, want);
    }

    private static void due(String call, boolean got, boolean want) {
        CHECKS.due(call, got, want);
    }

    private static ElmKite told(String text) {
        return Feeding.told(text);
    }

    /** All that is less than 0, and from a number on all that is more. */
    private static int[] others(int from) {
        int[] all = new int[OFF.length + 6];
        System.arraycopy(OFF, 0, all, 0, OFF.length);
        for (int i = 0; i < 4; i++) {
            all[OFF.length + i] = from + i;
        }
        all[OFF.length + 4] = MOST - 1;
        all[OFF.length + 5] = MOST;
        return all;
    }

    private static ElmKite torn(String text) {
        ElmKite x = told(text);
        due("it tears", x.pull(2, true, 2), 0);
        return x;
    }

    private static ElmKite down(String text) {
        ElmKite x = told(text);
        due("it runs", x.pull(0, false, 0), 2);
        due("it runs", x.pull(1, false, 0), 1);
        due("it runs", x.pull(3, false, 0), 0);
        return x;
    }

    private static void newObject() {
        of("ElmKite(): Nothing, the kite down");
        ElmKite x = new ElmKite();
        int[] first = {0, 0, 0, 12, 0, 1, 9, 0, 0, 0, 0, 0, 0};
        for (int what = 0; what < first.length; what++) {
            due("count(" + what + ")", x.count(what), first[what]);
        }
        due("chance(0, false, 0)", x.chance(0, false, 0), -1);
        due("pull(0, false, 0)", x.pull(0, false, 0), -1);
        due("slack()", x.slack(), -1);
        due("lifts()", x.lifts(), false);
        due("hurl(0, 0)", x.hurl(0, 0), -1);
        due("climb(0, false)", x.climb(0, false), false);
        due("climb(0, true)", x.climb(0, true), false);
        due("undo()", x.undo(), false);
        due("judged(0)", x.judged(0), -1);
        due("judged(1)", x.judged(1), 0);
        due("worth()", x.worth(), 0);
        due("next(6, 0)", x.next(6, 0), 0);
        due("next(6, 1)", x.next(6, 1), 0);
        due("fits()", x.fits(), 0);
        due("likely(0)", x.likely(0), -1);
        due("tells()", x.tells(), -1);
        due("cut(0, 20, 0)", x.cut(0, 20, 0), -1);
        due("waits(0, 0)", x.waits(0, 0), 1000000);
        due("waits(1, 48)", x.waits(1, 48), 0);
        due("lasts()", x.lasts(), -1);
        due("far(0)", x.far(0), -1);
        due("minutes(0)", x.minutes(0), -1);
        due("safe(0, 0)", x.safe(0, 0), 15);
        due("places(-1)", x.places(-1), 256);
        due("nearest(0, 0)", x.nearest(0, 0), 0);
        due("came(-1, 0)", x.came(-1, 0), 1);
        due("came(0, 0)", x.came(0, 0), -2);
        due("afternoons(0, 1, 1, 0)", x.afternoons(0, 1, 1, 0), 0);
        for (int mark = 0; mark < 4; mark++) {
            due("mark(" + mark + ", true)", x.mark(mark, true), false);
        }
        due("tell(0, true)", x.tell(0, true), true);
        due("hour(3)", x.hour(3), 13);
        due("tree() of nothing", x.tree(), 0);
        due("afternoon() of nothing", x.afternoon(), 0);
    }

    private static void feed() {
        of("feed: Up to 24 signs come behind the TAPE: the bytes of a, b, c, of each the highest first");
        ElmKite x = new ElmKite();
        due("none", x.feed(0, 0, 0), 0);
        due("none of 24", x.feed(-1L, -1L, -1L), 0);
        due("none of 24", x.feed(Long.MIN_VALUE, Long.MIN_VALUE, Long.MIN_VALUE), 0);
        due("8 of a", x.feed(0x6465772033203B20L, 0, 0), 8);
        due("tree()", x.tree(), 0);
        due("8 of b", x.feed(0, 0x6465772033203B20L, 0), 8);
        due("tree()", x.tree(), 0);
        due("8 of c", x.feed(0, 0, 0x6465772033203B20L), 8);
        due("tree()", x.tree(), 0);
        // "twig a high 60 thick 20 ", "side west;"
        due("24", x.feed(Feeding.packed("twig a high 60 thick 20 ", 0), Feeding.packed("twig a high 60 thick 20 ", 8),
            Feeding.packed("twig a high 60 thick 20 ", 16)), 24);
        due("10 behind them", x.feed(Feeding.packed("side west;", 0), Feeding.packed("side west;", 8), 0), 34);
        due("tree()", x.tree(), 0);
        due("twig(0, 2)", x.twig(0, 2), 3);
        of("feed: .. what is beyond 1,000, are left out: how many there are");
        x = new ElmKite();
        for (int i = 1; i <= 41; i++) {
            x.feed(0x2020202020202020L, 0x2020202020202020L, 0x2020202020202020L);
        }
        due("15 behind 984", x.feed(0x2020202020202020L, 0x2020202020202000L, 0), 999);
        due("the 1,000th, and one beyond", x.feed(0x2021L, 0, 0), 1000);
        due("24 beyond", x.feed(0x2121212121212121L, 0x2121212121212121L, 0x2121212121212121L), 1000);
        due("tree(): what is beyond is left out", x.tree(), 0);
        due("empty then", x.feed(0, 0, 0x20), 1);
    }

    private static void tree() {
        of("tree: The TAPE is read as a TREE: 0, or its FAULT (all stays then)");
        ElmKite x = told(TREE);
        x.hour(0);
        due("a FAULT at the first token", Feeding.tree(x, "x"), 1);
        due("a FAULT at the end", Feeding.tree(x, TREE + "cord"), 1 + 16 * (TREE.length() + 4));
        due("an AFTERNOON is no TREE", Feeding.tree(x, "slack ;"), 1);
        due("all stays: hour", x.count(3), 13);
        due("all stays: TWIGS", x.count(0), 3);
        due("all stays: elms", x.count(7), 1);
        due("0", Feeding.tree(x, TREE), 0);
        due("hour", x.count(3), 12);
    }

    private static void afternoon() {
        of("afternoon: The TAPE is read as an AFTERNOON, likewise");
        ElmKite x = told(TREE);
        due("0", Feeding.afternoon(x, "hour east ; climb a ; hurl q sticks ;"), 0);
        due("count(8)", x.count(8), 3);
        due("a TREE is no AFTERNOON", Feeding.afternoon(x, TREE), 1);
        due("a FAULT at the end", Feeding.afternoon(x, "slack"), 1 + 16 * 5);
        due("all stays", x.count(8), 3);
        due("all stays: judged(1)", x.judged(1), 2);
        // TWIGS and THINGS of the TREE that is there now.
        due("a TREE more", Feeding.tree(x, "twig z high 1 thick 1 side east ;"), 0);
        due("count(8)", x.count(8), 0);
        due("a NAME of the one ahead", Feeding.afternoon(x, "climb a ;"), 2 + 16 * 6);
        due("a NAME of this one", Feeding.afternoon(x, "climb z ;"), 0);
    }

    private static void twig() {
        of("twig: .. NONE: others");
        ElmKite x = told(TREE);
        int[][] all = {{10, 12, 0, -1, 0, 1}, {20, 9, 1, 0, 0, 1}, {28, 5, 3, 1, 0, 1}};
        for (int twig = 0; twig < 3; twig++) {
            for (int what = 0; what < 6; what++) {
                due("twig(" + twig + ", " + what + ")", x.twig(twig, what), all[twig][what]);
            }
            for (int what : others(6)) {
                due("twig(" + twig + ", " + what + ")", x.twig(twig, what), -1);
            }
        }
        for (int twig : others(3)) {
            for (int what = 0; what < 6; what++) {
                due("twig(" + twig + ", " + what + ")", x.twig(twig, what), -1);
            }
        }
        x.pull(2, true, 1);
        due("tight: twig(0, 4)", x.twig(0, 4), 2);
        due("tight: twig(1, 4)", x.twig(1, 4), 0);
        due("not over it: twig(0, 5)", told("twig a high 1 thick 1 side east ;").twig(0, 5), 0);
        due("not over it: twig(0, 4)", told("twig a high 1 thick 1 side east ;").twig(0, 4), 0);
    }

    private static void thing() {
        of("thing: .. NONE: others");
        ElmKite x = told(TREE);
        int[][] all = {{2, 3, 2, 1}, {30, 6, 4, 1}};
        for (int thing = 0; thing < 2; thing++) {
            for (int what = 0; what < 4; what++) {
                due("thing(" + thing + ", " + what + ")", x.thing(thing, what), all[thing][what]);
            }
            for (int what : others(4)) {
                due("thing(" + thing + ", " + what + ")", x.thing(thing, what), -1);
            }
        }
        for (int thing : others(2)) {
            for (int what = 0; what < 4; what++) {
                due("thing(" + thing + ", " + what + ")", x.thing(thing, what), -1);
            }
        }
        x.hurl(0, 1);
        due("up there: thing(0, 3)", x.thing(0, 3), 0);
        due("in the hand: thing(1, 3)", x.thing(1, 3), 1);
    }

    private static void chance() {
        of("chance: .. NONE: others, not up");
        ElmKite x = told(TREE);
        int[] runs = {10, 3, 0, 3};
        for (int side = 0; side < 4; side++) {
            due("chance(" + side + ", false, 0)", x.chance(side, false, 0), runs[side]);
            due("chance(" + side + ", true, 1)", x.chance(side, true, 1), 5);
            for (int what : others(2)) {
                due("chance(" + side + ", false, " + what + ")", x.chance(side, false, what), -1);
            }
            due("torn: chance(" + side + ", false, 0)", torn(TREE).chance(side, false, 0), -1);
            due("down: chance(" + side + ", true, 1)", down(TREE).chance(side, true, 1), -1);
        }
        for (int side : others(4)) {
            due("chance(" + side + ", false, 0)", x.chance(side, false, 0), -1);
            due("chance(" + side + ", true, 1)", x.chance(side, true, 1), -1);
        }
    }

    private static void pull() {
        of("pull: .. NONE: others, it can't be");
        ElmKite x = told(TREE);
        for (int side : others(4)) {
            for (int end = 0; end < 3; end++) {
                due("pull(" + side + ", false, " + end + ")", x.pull(side, false, end), -1);
                due("pull(" + side + ", true, " + end + ")", x.pull(side, true, end), -1);
            }
        }
        for (int side = 0; side < 4; side++) {
            for (int end : others(3)) {
                due("pull(" + side + ", false, " + end + ")", x.pull(side, false, end), -1);
            }
        }
        due("nothing was done", x.count(10), 0);
        due("from across it can't run", x.pull(2, false, 0), -1);
        due("from its side it can't bite", x.pull(0, false, 1), -1);
        due("from its side it can't tear", x.pull(0, false, 2), -1);
        due("nothing was done", x.count(10), 0);
        of("pull: .. how many TWIGS the string is over then");
        due("it bites", x.pull(2, false, 1), 3);
        due("it runs", x.pull(0, false, 0), 2);
        due("it runs", x.pull(1, false, 0), 1);
        due("it runs", x.pull(3, false, 0), 0);
        due("down", x.pull(3, false, 0), -1);
        due("torn", torn(TREE).pull(2, true, 2), -1);
    }

    private static void slack() {
        of("slack: SLACK: how tight then; NONE: not up, it is loose");
        ElmKite x = told(TREE);
        due("loose", x.slack(), -1);
        x.pull(2, true, 1);
        due("2 tight", x.slack(), 1);
        due("1 tight", x.slack(), 0);
        due("loose", x.slack(), -1);
        x.pull(2, true, 1);
        x.pull(2, true, 2);
        due("torn when tight", x.slack(), -1);
        due("down", down(TREE).slack(), -1);
        due("nothing told", new ElmKite().slack(), -1);
    }

    private static void lifts() {
        of("lifts: It LIFTS: true; false: it can't");
        ElmKite x = told(TREE);
        due("it lifts", x.lifts(), true);
        due("the wind comes from elsewhere", x.lifts(), false);
        due("nothing was done", x.count(10), 1);
        due("torn", torn(TREE).lifts(), false);
        due("down", down(TREE).lifts(), false);
        due("nothing told", new ElmKite().lifts(), false);
    }

    private static void hurl() {
        of("hurl: .. NONE: others, it can't be");
        ElmKite x = told(TREE);
        for (int thing : others(2)) {
            for (int end = 0; end < 3; end++) {
                due("hurl(" + thing + ", " + end + ")", x.hurl(thing, end), -1);
            }
        }
        for (int thing = 0; thing < 2; thing++) {
            for (int end : others(3)) {
                due("hurl(" + thing + ", " + end + ")", x.hurl(thing, end), -1);
            }
        }
        due("10 of ten together never come down", x.hurl(1, 0), -1);
        due("nothing was done", x.count(10), 0);
        of("hurl: .. how many TWIGS the string is over then");
        due("DOWN", x.hurl(0, 0), 3);
        due("FREES", x.hurl(0, 2), 2);
        due("STICKS", x.hurl(0, 1), 2);
        due("up there", x.hurl(0, 0), -1);
        due("FREES", x.hurl(1, 2), 1);
        due("FREES", x.hurl(1, 2), 0);
        due("down", x.hurl(1, 2), -1);
        due("torn", torn(TREE).hurl(0, 0), -1);
        due("nothing told", new ElmKite().hurl(0, 0), -1);
    }

    private static void climb() {
        of("climb: .. true; false: others, it can't be");
        ElmKite x = told(TREE);
        for (int twig : others(3)) {
            due("climb(" + twig + ", false)", x.climb(twig, false), false);
            due("climb(" + twig + ", true)", x.climb(twig, true), false);
        }
        due("too thin", x.climb(1, false), false);
        due("too high by one", x.climb(1, true), false);
        due("nothing was done", x.count(10), 0);
        due("thick enough", x.climb(0, false), true);
        due("off it already", x.climb(0, false), false);
        due("off it already", x.climb(0, true), false);
        due("no higher than both", told(TREE).climb(0, true), true);
        due("torn", torn(TREE).climb(0, false), false);
        due("down", down(TREE).climb(0, true), false);
        due("nothing told", new ElmKite().climb(0, true), false);
    }

    private static void hour() {
        of("hour: HOUR, the wind coming from a side then: which it is; NONE: others");
        ElmKite x = told(TREE);
        for (int side : others(4)) {
            due("hour(" + side + ")", x.hour(side), -1);
        }
        due("nothing was done: hour", x.count(3), 12);
        due("nothing was done", x.count(10), 0);
        for (int side = 0; side < 4; side++) {
            due("hour(" + side + ")", x.hour(side), 13 + side);
            due("the wind", x.count(4), side);
        }
        for (int hour = 17; hour < 24; hour++) {
            due("hour(0)", x.hour(0), hour);
        }
        due("behind 23", x.hour(0), 0);
        due("torn", torn(TREE).hour(1), 13);
        due("down", down(TREE).hour(1), 13);
        due("nothing told", new ElmKite().hour(1), 13);
    }

    private static void undo() {
        of("undo: UNDO: true; false: nothing can be");
        ElmKite x = told(TREE);
        due("nothing", x.undo(), false);
        x.pull(2, false, 0);
        due("what couldn't be", x.undo(), false);
        x.hour(0);
        due("an hour", x.undo(), true);
        due("nothing", x.undo(), false);
        for (int i = 0; i < 17; i++) {
            x.hour(0);
        }
        for (int i = 0; i < 16; i++) {
            due("the last 16", x.undo(), true);
        }
        due("the first of 17", x.undo(), false);
        due("hour", x.count(3), 13);
    }

    private static void judged() {
        of("judged: .. what 0: the first line that can't be (NONE: all can), 1: WORTH; -2: others");
        ElmKite x = told(TREE);
        due("no AFTERNOON: judged(0)", x.judged(0), -1);
        due("no AFTERNOON: judged(1)", x.judged(1), 32);
        for (int what : others(2)) {
            due("judged(" + what + ")", x.judged(what), -2);
        }
        Feeding.afternoon(x, "slack ;");
        due("the first one: judged(0)", x.judged(0), 0);
        Feeding.afternoon(x, "lifts ;");
        due("all can: judged(0)", x.judged(0), -1);
    }

    private static void worth() {
        of("worth: WORTH in all");
        due("up", told(TREE).worth(), 32);
        due("down", down(TREE).worth(), 82);
        due("torn", torn(TREE).worth(), 32);
        due("nothing", new ElmKite().worth(), 0);
    }

    private static void next() {
        of("next: .. NONE: others");
        ElmKite x = told(TREE);
        for (int tries : others(7)) {
            due("next(" + tries + ", 0)", x.next(tries, 0), -1);
            due("next(" + tries + ", 1)", x.next(tries, 1), -1);
        }
        for (int tries = 0; tries <= 6; tries++) {
            for (int what : others(2)) {
                due("next(" + tries + ", " + what + ")", x.next(tries, what), -1);
            }
            due("next(" + tries + ", 0)", x.next(tries, 0), tries < 3 ? 32000 : 82000);
            due("next(" + tries + ", 1)", x.next(tries, 1), tries < 3 ? 0 : 1);
        }
        due("torn: next(6, 0)", torn(TREE).next(6, 0), 32000);
        due("torn: next(6, 1)", torn(TREE).next(6, 1), 0);
        due("torn: next(7, 0)", torn(TREE).next(7, 0), -1);
        due("down: next(6, 0)", down(TREE).next(6, 0), 82000);
        due("down: next(-1, 1)", down(TREE).next(-1, 1), -1);
        due("down: next(0, 2)", down(TREE).next(0, 2), -1);
    }

    private static void tell() {
        of("tell: TOLD: true; false: others, 12 are TOLD");
        ElmKite x = told(TREE);
        for (int side : others(4)) {
            due("tell(" + side + ", true)", x.tell(side, true), false);
            due("tell(" + side + ", false)", x.tell(side, false), false);
        }
        due("none TOLD", x.count(9), 0);
        for (int i = 1; i <= 12; i++) {
            due("tell, " + i, x.tell(i % 4, false), true);
        }
        due("tell, 13", x.tell(0, false), false);
        due("12 TOLD", x.count(9), 12);
        due("nothing told yet", new ElmKite().tell(3, false), true);
    }

    private static void fits() {
        of("fits: FITS, as bits of TWIGS");
        ElmKite x = told(TREE);
        due("none TOLD", x.fits(), 7);
        x.tell(0, false);
        due("all but the first", x.fits(), 6);
        x.tell(1, false);
        due("the last", x.fits(), 4);
        x.tell(3, false);
        due("none", x.fits(), 0);
    }

    private static void likely() {
        of("likely: .. NONE: others, none fits");
        ElmKite x = told(TREE);
        due("likely(0)", x.likely(0), 0);
        due("likely(1)", x.likely(1), 333333);
        for (int what : others(2)) {
            due("likely(" + what + ")", x.likely(what), -1);
        }
        x.tell(0, false);
        x.tell(0, true);
        x.tell(1, false);
        due("one fits: likely(0)", x.likely(0), 2);
        due("one fits: likely(1)", x.likely(1), 1000000);
        x.tell(3, false);
        due("none fits: likely(0)", x.likely(0), -1);
        due("none fits: likely(1)", x.likely(1), -1);
    }

    private static void tells() {
        of("tells: TELLS; NONE: none fits");
        ElmKite x = told(TREE);
        due("all fit", x.tells(), 1);
        x.tell(0, false);
        x.tell(1, false);
        due("one fits", x.tells(), 0);
        x.tell(3, false);
        due("none fits", x.tells(), -1);
        due("no TWIG", new ElmKite().tells(), -1);
    }

    private static void cut() {
        of("cut: CUT (steps 0 to 20) .. NONE: others, not up");
        ElmKite x = told(TREE);
        for (int side : others(4)) {
            due("cut(" + side + ", 1, 0)", x.cut(side, 1, 0), -1);
            due("cut(" + side + ", 1, 1)", x.cut(side, 1, 1), -1);
        }
        for (int steps : others(21)) {
            due("cut(0, " + steps + ", 0)", x.cut(0, steps, 0), -1);
            due("cut(0, " + steps + ", 1)", x.cut(0, steps, 1), -1);
        }
        for (int what : others(2)) {
            due("cut(0, 1, " + what + ")", x.cut(0, 1, what), -1);
        }
        due("cut(0, 0, 0)", x.cut(0, 0, 0), 2);
        due("cut(0, 0, 1)", x.cut(0, 0, 1), 9);
        due("cut(0, 20, 0)", x.cut(0, 20, 0), 0);
        due("cut(0, 20, 1)", x.cut(0, 20, 1), 0);
        due("torn", torn(TREE).cut(0, 0, 0), -1);
        due("down", down(TREE).cut(0, 0, 1), -1);
        due("nothing told", new ElmKite().cut(0, 0, 0), -1);
    }

    private static void waits() {
        of("waits: WAITS by so many hours (0 to 48); NONE: others");
        ElmKite x = told(TREE);
        for (int side : others(4)) {
            due("waits(" + side + ", 1)", x.waits(side, 1), -1);
        }
        for (int hours : others(49)) {
            due("waits(0, " + hours + ")", x.waits(0, hours), -1);
            due("waits(2, " + hours + ")", x.waits(2, hours), -1);
        }
        due("waits(0, 0)", x.waits(0, 0), 1000000);
        due("waits(0, 48)", x.waits(0, 48), 1000000);
        due("waits(1, 0)", x.waits(1, 0), 0);
        due("waits(1, 1)", x.waits(1, 1), 100000);
        ElmKite wet = told("kite worth 1 paper 0 ;");
        due("paper 0: waits(0, 0)", wet.waits(0, 0), 0);
        due("paper 0: waits(4, 0)", wet.waits(4, 0), -1);
        due("paper 0: waits(0, 49)", wet.waits(0, 49), -1);
    }

    private static void lasts() {
        of("lasts: LASTS; NONE: longer");
        due("6 of dew from 20 on", told(TREE).lasts(), 13);
        due("no dew", told(TREE.replace("dew 1 ; ", "")).lasts(), -1);
        due("dew 0", told(TREE.replace("dew 1", "dew 0")).lasts(), -1);
        due("paper 0, dew 0", told("kite worth 1 paper 0 ; dew 0 ;").lasts(), 0);
        due("paper 99, dew 1", told("kite worth 1 paper 99 ; dew 1 ;").lasts(), 232);
    }

    private static void far() {
        of("far: FAR; NONE: others, it bears nobody");
        ElmKite x = told(TREE);
        for (int twig : others(3)) {
            due("far(" + twig + ")", x.far(twig), -1);
        }
        due("2 more", x.far(0), 2);
        due("1 less", x.far(1), -1);
        due("no less", told(TREE + "weighs 9 ;").far(1), 0);
    }

    private static void minutes() {
        of("minutes: MINUTES; NONE: others, none can");
        ElmKite x = told(TREE);
        for (int twig : others(3)) {
            due("minutes(" + twig + ")", x.minutes(twig), -1);
        }
        due("by the ladder", x.minutes(0), 5);
        due("none can: one too high", x.minutes(1), -1);
        due("none can", x.minutes(2), -1);
        due("both", told(TREE.replace("pole 9", "pole 10 ")).minutes(0), 2);
        due("both", told(TREE.replace("ladder 10", "ladder 11")).minutes(1), 9);
    }

    private static void safe() {
        of("safe: SAFE at a place, as bits of sides; NONE: others");
        ElmKite x = told(TREE);
        for (int off : others(16)) {
            due("safe(" + off + ", 3)", x.safe(off, 3), -1);
            due("safe(3, " + off + ")", x.safe(3, off), -1);
            due("safe(" + off + ", " + off + ")", x.safe(off, off), -1);
        }
        due("safe(3, 3)", x.safe(3, 3), 0);
        due("safe(3, 0)", x.safe(3, 0), 14);
        due("safe(8, 3)", x.safe(8, 3), 13);
        due("safe(3, 8)", x.safe(3, 8), 11);
        due("safe(0, 3)", x.safe(0, 3), 7);
        due("safe(9, 3)", x.safe(9, 3), 15);
        due("safe(3, 9)", x.safe(3, 9), 15);
        due("safe(15, 15)", x.safe(15, 15), 15);
        due("safe(0, 0)", x.safe(0, 0), 15);
    }

    private static void places() {
        of("places: CELLS by a side (NONE: by all); NONE: others");
        ElmKite x = told(TREE);
        int[] cells = {239, 252, 250, 250, 252};
        for (int side = -1; side < 4; side++) {
            due("places(" + side + ")", x.places(side), cells[side + 1]);
        }
        for (int side : others(4)) {
            if (side != -1) {
                due("places(" + side + ")", x.places(side), -1);
            }
        }
    }

    private static void nearest() {
        of("nearest: NEAREST; NONE: others, none");
        ElmKite x = told(TREE);
        for (int off : others(16)) {
            due("nearest(" + off + ", 3)", x.nearest(off, 3), -1);
            due("nearest(3, " + off + ")", x.nearest(3, off), -1);
        }
        due("nearest(3, 3)", x.nearest(3, 3), 2);
        due("nearest(3, 4)", x.nearest(3, 4), 1);
        due("nearest(4, 4)", x.nearest(4, 4), 0);
        due("nearest(0, 0)", x.nearest(0, 0), 0);
        due("nearest(15, 15)", x.nearest(15, 15), 0);
    }

    private static void came() {
        of("came: CAME, thing NONE: how many rows; .. -2: others, no row (but NONE)");
        ElmKite x = told(TREE);
        due("came(-1, 0)", x.came(-1, 0), 1);
        due("came(0, 0)", x.came(0, 0), 0);
        due("came(0, 1)", x.came(0, 1), 0);
        due("came(1, 0)", x.came(1, 0), 1);
        due("came(1, 1)", x.came(1, 1), 1);
        for (int thing : others(2)) {
            if (thing != -1) {
                due("came(" + thing + ", 0)", x.came(thing, 0), -2);
                due("came(" + thing + ", 1)", x.came(thing, 1), -2);
            }
        }
        for (int what : others(2)) {
            due("came(0, " + what + ")", x.came(0, what), -2);
            due("came(1, " + what + ")", x.came(1, what), -2);
        }
        x = told(TREE + "over q p ;");
        due("no row: came(-1, 0)", x.came(-1, 0), 0);
        due("no row: came(0, 0)", x.came(0, 0), -2);
        due("no row: came(1, 1)", x.came(1, 1), -2);
        due("no THING: came(-1, 0)", new ElmKite().came(-1, 0), 1);
        due("no THING: came(0, 0)", new ElmKite().came(0, 0), -2);
    }

    private static void afternoons() {
        of("afternoons: AFTERNOONS by a SEED (0 to 9999) .. NONE: others");
        ElmKite x = told(TREE);
        for (int seed : others(10000)) {
            due("afternoons(" + seed + ", 1, 3, 0)", x.afternoons(seed, 1, 3, 0), -1);
        }
        for (int many : others(21)) {
            due("afternoons(5, " + many + ", 3, 0)", x.afternoons(5, many, 3, 0), -1);
        }
        due("afternoons(5, 0, 3, 0)", x.afternoons(5, 0, 3, 0), -1);
        for (int tries : others(7)) {
            due("afternoons(5, 1, " + tries + ", 0)", x.afternoons(5, 1, tries, 0), -1);
        }
        due("afternoons(5, 1, 0, 0)", x.afternoons(5, 1, 0, 0), -1);
        for (int what : others(3)) {
            due("afternoons(5, 1, 3, " + what + ")", x.afternoons(5, 1, 3, what), -1);
        }
        int[] seeds = {0, 1, 9998, 9999};
        for (int seed : seeds) {
            due("afternoons(" + seed + ", 1, 1, 0)", x.afternoons(seed, 1, 1, 0), 32);
            due("afternoons(" + seed + ", 20, 6, 0)", x.afternoons(seed, 20, 6, 0), 1640);
            due("afternoons(" + seed + ", 20, 3, 1)", x.afternoons(seed, 20, 3, 1), 0);
            due("afternoons(" + seed + ", 1, 6, 2)", x.afternoons(seed, 1, 6, 2), 0);
        }
    }

    private static void mark() {
        of("mark: .. true; false: none such, nothing is on it (back)");
        ElmKite x = told(TREE);
        for (int mark : others(4)) {
            due("mark(" + mark + ", false)", x.mark(mark, false), false);
            due("mark(" + mark + ", true)", x.mark(mark, true), false);
        }
        for (int mark = 0; mark < 4; mark++) {
            due("nothing is on it: mark(" + mark + ", true)", x.mark(mark, true), false);
            due("mark(" + mark + ", false)", x.mark(mark, false), true);
            due("mark(" + mark + ", true)", x.mark(mark, true), true);
        }
        x.mark(32, false);
        due("mark(32, true)", x.mark(32, true), false);
        due("mark(36, true)", x.mark(36, true), false);
    }

    private static void count() {
        of("count: .. NONE for another what");
        ElmKite x = told(TREE);
        for (int what : others(13)) {
            due("count(" + what + ")", x.count(what), -1);
        }
        int[] all = {3, 2, 3, 12, 0, 0, 6, 1, 0, 0, 0, 0, 2};
        for (int what = 0; what < 13; what++) {
            due("count(" + what + ")", x.count(what), all[what]);
        }
        due("the kite down: count(5)", down(TREE).count(5), 1);
        due("the kite torn: count(5)", torn(TREE).count(5), 2);
    }
}
