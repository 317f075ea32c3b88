/** Each promise of the document by itself; what is due is worked out by hand from its words. */
public final class PromisesTest {
    private static final String THREE = "twig low high 10 thick 12 side north ; twig mid high 20 thick 9 side east on low ; "
        + "twig top high 28 thick 5 side west on mid ; ";
    private static final String TWO = "thing stone worth 2 stuck 3 frees 2 ; thing shoe worth 30 stuck 6 frees 4 ; ";
    private static final String UP = THREE + "string top mid low ; kite worth 50 paper 6 ; " + TWO;

    private static final Checks CHECKS = new Checks();

    private PromisesTest() {
    }

    public static void main(String[] args) {
        newObject();
        feed();
        treeFaults();
        treeFaultsOfLaws();
        treeStands();
        laws();
        afternoonFaults();
        afternoonStands();
        twig();
        thing();
        chance();
        pull();
        slack();
        lifts();
        hurl();
        climb();
        hour();
        undo();
        judged();
        worth();
        next();
        nextOfMore();
        tell();
        likely();
        tells();
        cut();
        waits();
        lasts();
        far();
        minutes();
        safe();
        places();
        nearest();
        came();
        afternoons();
        afternoonsBehindTries();
        afternoonsByHand();
        mark();
        count();
        constants();
        CHECKS.end("PromisesTest");
    }

    private static void due(String call, long got, long want) {
        CHECKS.due(call, got, want);
    }

    private static void due(String call, boolean got, boolean want) {
        CHECKS.due(call, got, want);
    }

    private static ElmKite told(String text) {
        return Feeding.told(text);
    }

    private static void fault(int kind, String marked) {
        CHECKS.treeFault(kind, marked);
    }

    private static void dayFault(int kind, String marked) {
        CHECKS.dayFault(UP, kind, marked);
    }

    private static void newObject() {
        ElmKite x = new ElmKite();
        int[] first = {0, 0, 0, 12, 0, 1, 9, 0, 0, 0, 0, 0, 0};
        for (int what = 0; what < first.length; what++) {
            due("new: count(" + what + ")", x.count(what), first[what]);
        }
        due("new: twig(0, 0)", x.twig(0, 0), -1);
        due("new: thing(0, 0)", x.thing(0, 0), -1);
        due("new: worth()", x.worth(), 0);
        due("new: undo()", x.undo(), false);
        due("new: mark(0, true)", x.mark(0, true), false);
        due("new: hurl(0, 0)", x.hurl(0, 0), -1);
        due("new: climb(0, true)", x.climb(0, true), false);
        due("new: far(0)", x.far(0), -1);
        due("new: minutes(0)", x.minutes(0), -1);
        due("new: waits(0, 48)", x.waits(0, 48), 1000000);
        due("new: afternoons(1, 1, 1, 0)", x.afternoons(1, 1, 1, 0), 0);
    }

    private static void feed() {
        ElmKite x = new ElmKite();
        due("feed of zeros", x.feed(0, 0, 0), 0);
        due("feed of ones", x.feed(-1, -1, -1), 0);
        due("feed: 9, 10, 11, 31, 32, 126, 127, 128", x.feed(0x090A0B1F207E7F80L, 0, 0), 3);
        due("feed of blanks", x.feed(0x2020202020202020L, 0x2020202020202020L, 0x2020202020202020L), 27);
        due("feed: the tape is taken", x.tree(), 1 + 16 * 2);
        due("feed: it is empty then", x.count(11), 0);
        due("feed: highest byte first", x.feed(Feeding.packed("lift", 0), Feeding.packed(" 7", 0), Feeding.packed(" ; dew 8", 0)), 14);
        due("feed: in the order a, b, c", x.tree(), 1 + 16 * 14);
        for (int i = 1; i <= 41; i++) {
            due("feed " + i, x.feed(0x2020202020202020L, 0x2020202020202020L, 0x2020202020202020L), 24 * i);
        }
        due("feed: 1,000 at most", x.feed(0x2020202020202020L, 0x6161616161616161L, 0x2020202020202020L), 1000);
        due("feed: none more", x.feed(0x2020202020202020L, 0, 0), 1000);
        due("feed: the last sixteen stood", x.tree(), 1 + 16 * 992);
    }

    private static void treeFaults() {
        fault(1, "^lo");
        fault(1, "^;");
        fault(1, "^7");
        fault(1, "^pull");
        fault(1, "^high");
        fault(1, "lift 3^");
        fault(1, "lift 3 ^lift 3 ;");
        fault(1, "lift 3; ^;");
        fault(1, "lift 3;  \n ^% kite");
        fault(1, "lift ^12345 ;");
        fault(1, "lift ^Three ;");
        fault(1, "twig ^abcdefghi high 3");
        fault(1, "twig a^1 high 3");
        fault(1, "twig ^east high 3");
        fault(1, "twig ^not");
        fault(1, "twig a high 3 ^side");
        fault(1, "twig a high 3 thick 3 side ^up");
        fault(1, "twig a high 3 thick 3 side north ^a");
        fault(1, "twig a high 3 thick 3 side north on ^;");
        fault(2, "twig a high 3 thick 3 side north on ^a ;");
        fault(2, TWO + "twig a high 3 thick 3 side north on ^stone ;");
        fault(3, "twig a high 3 thick 3 side north ; twig ^a");
        fault(3, "twig a high 3 thick 3 side north ; thing ^a");
        fault(3, TWO + "twig ^shoe");
        fault(4, "twig a high ^0");
        fault(4, "twig a high ^61");
        fault(4, "twig a high 60 thick ^0");
        fault(4, "twig a high 60 thick ^21");
        StringBuilder eight = new StringBuilder();
        for (char c = 'a'; c < 'i'; c++) {
            eight.append("twig ").append(c).append(" high 9 thick 9 side south ; ");
        }
        fault(5, eight + "^twig i high 9");
        fault(5, eight + "^twig");
        fault(5, eight + "string a b c d e f ^g ;");
        fault(3, eight + "string a b c d e f ^f ;");
        fault(2, eight + "string a b c d e f ^i ;");
        fault(1, eight + "string a b c d e f ^twig ;");
        fault(1, eight + "string a b c d e f ^7 ;");
        fault(1, eight + "string ^;");
        fault(1, eight + "string a b^");
        fault(3, eight + "string a ; ^string b ;");
        fault(1, "kite ^paper 3");
        fault(4, "kite worth ^1000 paper 100");
        fault(4, "kite worth 999 paper ^100");
        fault(3, "kite worth 999 paper 99 ; ^kite");
        fault(4, "thing a worth ^1000");
        fault(4, "thing a worth 999 stuck ^11");
        fault(4, "thing a worth 0 stuck 10 frees ^1");
        fault(4, "thing a worth 0 stuck 0 frees ^11");
        fault(5, TWO + "thing c worth 0 stuck 0 frees 0 ; thing d worth 0 stuck 0 frees 10 ; ^thing e");
        fault(2, UP + "over ^low stone ;");
        fault(2, TWO + "over stone ^low ;");
        fault(1, TWO + "over stone ^over");
        fault(3, TWO + "over stone ^stone ;");
        fault(3, TWO + "over stone shoe ; over stone ^shoe ;");
        fault(1, TWO + "over stone shoe ^stone");
        fault(1, "wind ^3");
        fault(4, "wind east ^11 0");
        fault(4, "wind east 4 ^7");
        fault(3, "wind east 4 6 ; ^wind");
        fault(4, "lift ^11");
        fault(4, "dew ^10");
        fault(3, "dew 9 ; lift 10 ; ^dew");
        fault(4, "ladder ^61");
        fault(4, "ladder 60 pole ^61");
        fault(1, "ladder 60 ^60");
        fault(1, "^pole");
        fault(4, "weighs ^0");
        fault(4, "weighs ^100");
        fault(4, "cord ^0");
        fault(4, "cord ^16");
        fault(4, "elm ^16 0");
        fault(4, "elm 0 ^16");
        fault(3, "elm 3 4 ; elm 4 3 ; elm 3 ^4");
        fault(5, "elm 0 0;elm 0 1;elm 0 2;elm 0 3;elm 0 4;elm 0 5;elm 0 6;elm 0 7;^elm 0 8;");
    }

    private static void treeFaultsOfLaws() {
        fault(1, "run ^;");
        fault(1, "run ^)");
        fault(1, "run ^- 3 ;");
        fault(1, "run 3 ^3 ;");
        fault(1, "run ( 3 ^;");
        fault(1, "run 3 ^) ;");
        fault(1, "run ^stone ;");
        fault(1, "run ^side ;");
        fault(1, "run 1 + ^;");
        fault(1, "run 1 < 2 ^= 2 ;");
        fault(1, "run 1 and ^and");
        fault(1, "run not ^;");
        fault(1, "run ^10000 ;");
        fault(5, "run ((((( ^7 ))))) ;");
        fault(5, "run ((((( ^( 7 ;");
        fault(5, "run ((((( ^not 7 ;");
        fault(5, "run not ( not ( not ^tight");
        fault(5, "tear 1 + not not not not not ^not 1 ;");
        fault(1, "tear ((((( ^+ ;");
        fault(3, "run 1 ; ^run");
        due("four deep, often", Feeding.tree(new ElmKite(), "run ((((7)))) + (((not 1))) * not not (not tight) ;"), 0);
    }

    private static void treeStands() {
        ElmKite x = told("");
        due("tree of nothing: count(5)", x.count(5), 1);
        due("tree of nothing: count(6)", x.count(6), 9);
        x = told("twig a high 10thick 5side north;string a;kite worth 3paper 2;lift10;wind south 0 0;");
        due("tight text: count(5)", x.count(5), 0);
        due("tight text: count(6)", x.count(6), 2);
        due("tight text: count(4)", x.count(4), 2);
        x.hour(1);
        x.pull(0, false, 0);
        x.tell(0, true);
        x.mark(2, false);
        Feeding.afternoon(x, "slack ;");
        due("a fault: all stays", Feeding.tree(x, "twig b high 0"), 4 + 16 * 12);
        due("a fault: hour", x.count(3), 13);
        due("a fault: twigs", x.count(0), 1);
        due("a fault: lines", x.count(8), 1);
        due("a fault: told", x.count(9), 1);
        due("a fault: can be undone", x.count(10), 2);
        due("a fault: the tape", x.count(11), 0);
        due("a tree more", Feeding.tree(x, "wind west 1 1 ; thing a worth 5 stuck 0 frees 0 ;"), 0);
        int[] all = {0, 1, 0, 12, 3, 1, 9, 0, 0, 0, 0, 0, 1};
        for (int what = 0; what < all.length; what++) {
            due("a tree more: count(" + what + ")", x.count(what), all[what]);
        }
        due("a tree more: mark", x.mark(2, true), false);
        due("a tree more: undo", x.undo(), false);
        due("a tree more: worth", x.worth(), 5);
        x = told("twig tight high 1 thick 1 side west ; thing away worth 1 stuck 0 frees 0 ; string tight ;");
        due("facts can be names", x.twig(0, 2), 3);
        x = told(TWO + "over shoe stone ; over stone shoe ;");
        due("a pair both ways round", x.came(-1, 0), 0);
    }

    private static void law(String e, int runs) {
        ElmKite x = told("twig a high 9 thick 7 side east ; string a ; run " + e + " ;");
        due("run " + e, x.chance(1, false, 0), runs);
    }

    private static void laws() {
        law("1 + 2 * 3", 7);
        law("(1 + 2) * 3", 9);
        law("9 - 2 - 3", 4);
        law("9 - (2 - 3)", 10);
        law("2 - 9", 0);
        law("11", 10);
        law("0", 0);
        law("size", 7);
        law("size - 5 < 3", 1);
        law("2 + 3 = 5", 1);
        law("2 + (3 = 4)", 2);
        law("not 5", 0);
        law("not 0 + 4", 5);
        law("not not 5 * 3", 3);
        law("0 and 0 or 1", 1);
        law("1 or 1 and 0", 0);
        law("7 or 0", 1);
        law("3 and 4", 1);
        law("3 < 2", 0);
        law("9999 * 9999 * 9999 * 9999 < 0", 9999 * 9999 * 9999 * 9999 < 0 ? 1 : 0);
        law("(9999 * 9999 * 22 < 0) * 4", 4);
        ElmKite x = told("twig a high 9 thick 7 side east ; string a ; run away * 4 + force + tight ; tear 3 * force + away ;");
        due("run at away 1", x.chance(0, false, 0), 4);
        due("run at away 2, hard", x.chance(3, true, 0), 9);
        due("tear at away 2, hard", x.chance(3, true, 1), 5);
        due("it bites", x.pull(1, true, 1), 1);
        due("run at away 0, hard, tight 2", x.chance(1, true, 0), 3);
    }

    private static void afternoonFaults() {
        dayFault(1, "^twig");
        dayFault(1, "^;");
        dayFault(1, "slack^");
        dayFault(1, "slack ^slack ;");
        dayFault(1, "pull ^up");
        dayFault(1, "pull west ^quick");
        dayFault(1, "pull west hard ^sticks ;");
        dayFault(1, "pull west hard tears ^hard ;");
        dayFault(2, "hurl ^low down ;");
        dayFault(2, "hurl ^ball down ;");
        dayFault(1, "hurl ^down ;");
        dayFault(1, "hurl shoe ^up ;");
        dayFault(1, "hurl shoe ^runs ;");
        dayFault(2, "climb ^shoe ;");
        dayFault(2, "poke ^nobody ;");
        dayFault(1, "poke ^poke ;");
        dayFault(1, "hour ^noon ;");
        dayFault(1, "hour ^3 ;");
        dayFault(5, "lifts;".repeat(24) + "^slack;");
        dayFault(5, "lifts;".repeat(24) + "^hour");
        dayFault(1, "lifts;".repeat(24) + "^thing");
        dayFault(1, "lifts;".repeat(23) + "lifts^");
    }

    private static void afternoonStands() {
        ElmKite x = told(UP);
        due("24 lines", Feeding.afternoon(x, "lifts;".repeat(24)), 0);
        due("24 lines: count(8)", x.count(8), 24);
        due("a fault", Feeding.afternoon(x, "slack ; climb b ;"), 2 + 16 * 14);
        due("a fault: all stays", x.count(8), 24);
        due("a fault: the tape is taken", x.count(11), 0);
        due("none", x.afternoon(), 0);
        due("none: count(8)", x.count(8), 0);
    }

    private static void twig() {
        ElmKite x = told(UP);
        int[] mid = {20, 9, 1, 0, 0, 1};
        for (int what = 0; what < mid.length; what++) {
            due("twig(1, " + what + ")", x.twig(1, what), mid[what]);
        }
        due("twig(0, 3)", x.twig(0, 3), -1);
        due("twig(2, 3)", x.twig(2, 3), 1);
        due("twig(1, 6)", x.twig(1, 6), -1);
        due("twig(1, -1)", x.twig(1, -1), -1);
        due("twig(3, 0)", x.twig(3, 0), -1);
        due("twig(-1, 0)", x.twig(-1, 0), -1);
        x.pull(2, true, 1);
        due("twig(0, 4) tight", x.twig(0, 4), 2);
        due("twig(1, 4) loose", x.twig(1, 4), 0);
        x.climb(0, false);
        due("twig(0, 4) off", x.twig(0, 4), 0);
        due("twig(0, 5) off", x.twig(0, 5), 0);
        due("twig(1, 4) last", x.twig(1, 4), 0);
    }

    private static void thing() {
        ElmKite x = told(UP);
        int[] shoe = {30, 6, 4, 1};
        for (int what = 0; what < shoe.length; what++) {
            due("thing(1, " + what + ")", x.thing(1, what), shoe[what]);
        }
        due("thing(1, 4)", x.thing(1, 4), -1);
        due("thing(1, -1)", x.thing(1, -1), -1);
        due("thing(2, 0)", x.thing(2, 0), -1);
        due("thing(-1, 0)", x.thing(-1, 0), -1);
        x.hurl(1, 1);
        due("thing(1, 3) up there", x.thing(1, 3), 0);
        due("thing(0, 3) in the hand", x.thing(0, 3), 1);
    }

    private static void chance() {
        ElmKite x = told(UP);
        int[] runs = {10, 3, 0, 3};
        for (int side = 0; side < 4; side++) {
            due("chance(" + side + ", false, 0)", x.chance(side, false, 0), runs[side]);
            due("chance(" + side + ", true, 0)", x.chance(side, true, 0), runs[side]);
            due("chance(" + side + ", false, 1)", x.chance(side, false, 1), 0);
            due("chance(" + side + ", true, 1)", x.chance(side, true, 1), 2);
        }
        due("chance(4, false, 0)", x.chance(4, false, 0), -1);
        due("chance(-1, false, 0)", x.chance(-1, false, 0), -1);
        due("chance(0, false, 2)", x.chance(0, false, 2), -1);
        due("chance(0, false, -1)", x.chance(0, false, -1), -1);
        for (int i = 0; i < 4; i++) {
            x.pull(2, true, 1);
        }
        due("tight 8: chance(0, false, 0)", x.chance(0, false, 0), 2);
        due("tight 8: chance(1, false, 0)", x.chance(1, false, 0), 0);
        due("tight 8: chance(1, true, 1)", x.chance(1, true, 1), 10);
        x.pull(2, false, 2);
        due("torn: chance(0, false, 0)", x.chance(0, false, 0), -1);
    }

    private static void pull() {
        ElmKite x = told(UP);
        due("it can't bite where it always runs", x.pull(0, false, 1), -1);
        due("it can't tear where it always runs", x.pull(0, true, 2), -1);
        due("it can't run from the other side", x.pull(2, false, 0), -1);
        due("it can't tear if loose and soft", x.pull(2, false, 2), -1);
        due("pull(4, false, 1)", x.pull(4, false, 1), -1);
        due("pull(-1, false, 1)", x.pull(-1, false, 1), -1);
        due("pull(2, false, 3)", x.pull(2, false, 3), -1);
        due("pull(2, false, -1)", x.pull(2, false, -1), -1);
        due("nothing was done", x.count(10), 0);
        due("it bites", x.pull(2, false, 1), 3);
        due("it is 1 tighter", x.twig(0, 4), 1);
        due("it bites, hard", x.pull(2, true, 1), 3);
        due("it is 2 tighter", x.twig(0, 4), 3);
        for (int i = 0; i < 5; i++) {
            due("it bites", x.pull(2, false, 1), 3);
        }
        due("tight 8: it can't bite, hard", x.pull(2, true, 1), -1);
        due("tight 8: it bites, soft", x.pull(2, false, 1), 3);
        due("tight 9: it bites, soft", x.pull(2, false, 1), 3);
        due("9 at most", x.twig(0, 4), 9);
        due("it runs", x.pull(0, false, 0), 2);
        due("the next one is loose", x.twig(1, 4), 0);
        due("the next one's side", x.chance(1, false, 0), 10);
        due("it runs", x.pull(1, true, 0), 1);
        due("it runs off the last", x.pull(2, false, 0), 0);
        due("it is down", x.count(5), 1);
        due("down: pull", x.pull(2, false, 1), -1);
        x = told(UP);
        due("it tears", x.pull(2, true, 2), 0);
        due("it is torn", x.count(5), 2);
        due("the string is down", x.twig(0, 5), 0);
        due("torn: pull", x.pull(2, false, 1), -1);
    }

    private static void slack() {
        ElmKite x = told(UP);
        due("loose: slack()", x.slack(), -1);
        x.pull(2, true, 1);
        due("slack()", x.slack(), 1);
        due("slack()", x.slack(), 0);
        due("slack()", x.slack(), -1);
        x.pull(2, true, 2);
        due("torn: slack()", x.slack(), -1);
    }

    private static void lifts() {
        ElmKite x = told(UP);
        due("lift 0", x.lifts(), false);
        x = told(UP + "lift 1 ; wind east 0 0 ;");
        due("the wind comes from elsewhere", x.lifts(), false);
        x.hour(0);
        x.pull(2, false, 1);
        due("it is tight", x.lifts(), false);
        x.slack();
        due("it lifts", x.lifts(), true);
        due("the string is off it", x.count(2), 2);
        due("the next one is on another side", x.lifts(), false);
        x.hour(1);
        due("it lifts", x.lifts(), true);
        x.hour(3);
        due("it lifts", x.lifts(), true);
        due("it is down", x.count(5), 1);
        due("down", x.lifts(), false);
    }

    private static void hurl() {
        ElmKite x = told(UP + "thing ball worth 1 stuck 0 frees 0 ;");
        due("a shoe never comes down", x.hurl(1, 0), -1);
        due("a ball never sticks", x.hurl(2, 1), -1);
        due("a ball never frees", x.hurl(2, 2), -1);
        due("hurl(3, 0)", x.hurl(3, 0), -1);
        due("hurl(-1, 0)", x.hurl(-1, 0), -1);
        due("hurl(0, 3)", x.hurl(0, 3), -1);
        due("hurl(0, -1)", x.hurl(0, -1), -1);
        due("it comes down", x.hurl(0, 0), 3);
        due("it is in the hand", x.count(12), 3);
        due("it sticks", x.hurl(0, 1), 3);
        due("it isn't in the hand", x.count(12), 2);
        due("it is up there", x.hurl(0, 0), -1);
        x.pull(2, false, 1);
        due("it frees", x.hurl(1, 2), 2);
        due("it came down again", x.thing(1, 3), 1);
        due("it frees", x.hurl(1, 2), 1);
        due("it frees", x.hurl(1, 2), 0);
        due("it is down", x.count(5), 1);
        due("down: hurl", x.hurl(2, 0), -1);
    }

    private static void climb() {
        ElmKite x = told(UP + "weighs 9 ; ladder 12 pole 8 ;");
        due("too thin", x.climb(2, false), false);
        due("too high", x.climb(2, true), false);
        due("climb(3, false)", x.climb(3, false), false);
        due("climb(-1, true)", x.climb(-1, true), false);
        x.pull(2, false, 1);
        due("climb to the middle one", x.climb(1, false), true);
        due("the last one stays tight", x.twig(0, 4), 1);
        due("the string is off it", x.twig(1, 5), 0);
        due("it isn't over it any more", x.climb(1, true), false);
        due("poke the last one", x.climb(0, true), true);
        due("over one", x.count(2), 1);
        due("the last one now", x.chance(3, false, 0), 10);
        x = told(THREE + "string mid ; weighs 10 ;");
        due("mid is thinner", x.climb(1, false), false);
        x = told("twig low high 5 thick 3 side east ; twig up high 9 thick 20 side east on low ; string up low ; weighs 4 ;");
        due("what it is on is too thin", x.climb(0, false), false);
        x = told("twig low high 5 thick 4 side east ; twig up high 9 thick 20 side east on low ; string up ; weighs 4 ; ladder 4 pole 5 ;");
        due("not over it", x.climb(0, false), false);
        due("no less thick", x.climb(1, false), true);
        due("it is down", x.count(5), 1);
        x.undo();
        due("no higher than both together", x.climb(1, true), true);
    }

    private static void hour() {
        ElmKite x = told(UP + "dew 2 ; wind south 1 0 ;");
        due("hour(4)", x.hour(4), -1);
        due("hour(-1)", x.hour(-1), -1);
        for (int h = 13; h < 20; h++) {
            due("hour(1)", x.hour(1), h);
        }
        due("the wind", x.count(4), 1);
        due("ahead of 20", x.count(6), 6);
        due("hour(0)", x.hour(0), 20);
        due("from 20 on", x.count(6), 4);
        for (int h = 21; h < 24; h++) {
            due("hour(3)", x.hour(3), h);
        }
        due("0 at least", x.count(6), 0);
        due("behind 23", x.hour(3), 0);
        x = told(UP + "dew 1 ;");
        for (int i = 0; i < 24; i++) {
            x.hour(0);
        }
        due("10 hours of dew", x.count(6), 0);
        x = told("kite worth 5 paper 20 ; dew 1 ; twig a high 1 thick 1 side east ; string a ;");
        for (int i = 0; i < 24; i++) {
            x.hour(0);
        }
        due("10 hours of dew", x.count(6), 10);
        due("till 5", x.count(3), 12);
        x.pull(1, false, 0);
        for (int i = 0; i < 24; i++) {
            x.hour(0);
        }
        due("down: no dew", x.count(6), 10);
    }

    private static void undo() {
        ElmKite x = told(UP + "dew 1 ;");
        for (int i = 0; i < 20; i++) {
            x.hour(i % 4);
        }
        due("the last 16", x.count(10), 16);
        for (int i = 0; i < 16; i++) {
            due("undo()", x.undo(), true);
        }
        due("no more", x.undo(), false);
        due("hour", x.count(3), 16);
        due("wind", x.count(4), 3);
        due("paper", x.count(6), 6);
        x.pull(2, true, 1);
        x.tell(1, true);
        x.hurl(0, 1);
        x.pull(2, true, 2);
        due("torn", x.count(5), 2);
        due("undo the tear", x.undo(), true);
        due("up", x.count(5), 0);
        due("tight", x.twig(0, 4), 2);
        due("stuck yet", x.count(12), 1);
        due("undo the throw", x.undo(), true);
        due("in the hand", x.count(12), 2);
        due("what is told stays", x.count(9), 1);
        x.pull(9, true, 1);
        due("what can't be isn't undone", x.count(10), 1);
        x.hurl(0, 0);
        due("a throw that comes down is", x.count(10), 2);
    }

    private static void judged() {
        ElmKite x = told(UP + "weighs 9 ; ladder 12 pole 8 ; lift 4 ; dew 3 ;");
        due("none: judged(0)", x.judged(0), -1);
        due("none: judged(1)", x.judged(1), 32);
        due("judged(2)", x.judged(2), -2);
        due("judged(-1)", x.judged(-1), -2);
        x.pull(0, false, 0);
        x.hour(3);
        Feeding.afternoon(x, "lifts ; pull east soft runs ; hurl shoe frees ;");
        due("all can: judged(0)", x.judged(0), -1);
        due("all can: judged(1)", x.judged(1), 82);
        due("it stands as ahead", x.count(2), 2);
        Feeding.afternoon(x, "hour east ; lifts ; hurl shoe down ; hurl shoe sticks ; pull south hard tears ; slack ;");
        due("judged(0)", x.judged(0), 1);
        due("judged(1)", x.judged(1), 2);
        Feeding.afternoon(x, "hurl shoe sticks ; hurl shoe sticks ; climb mid ; climb top ; poke low ; pull south hard bites ; slack ; slack ;"
            + "pull west hard runs ; pull west hard runs ;");
        due("judged(0)", x.judged(0), 1);
        due("judged(1): left out are the lines that can't be", x.judged(1), 52);
        Feeding.afternoon(x, "hour north ;".repeat(9) + "pull north soft runs ; pull east soft runs ; pull west soft runs ; hour east;");
        due("wet: judged(0)", x.judged(0), -1);
        due("wet: judged(1)", x.judged(1), 32);
        Feeding.afternoon(x, "hour north ;".repeat(8) + "pull north soft runs ; pull east soft runs ; pull west soft runs ; hour east;");
        due("damp: judged(1)", x.judged(1), 82);
    }

    private static void worth() {
        due("down: worth()", told("kite worth 7 paper 1 ;" + TWO).worth(), 39);
        due("no paper: worth()", told("kite worth 7 paper 0 ;" + TWO).worth(), 32);
        ElmKite x = told(UP);
        due("up: worth()", x.worth(), 32);
        x.hurl(1, 1);
        due("up there: worth()", x.worth(), 2);
        x.pull(2, true, 2);
        due("torn: worth()", x.worth(), 2);
    }

    private static void next() {
        // It runs always, so each try frees one.
        ElmKite x = told(UP);
        int[] due = {32000, 32000, 32000, 82000, 82000};
        int[] first = {0, 0, 0, 1, 1};
        for (int tries = 0; tries < due.length; tries++) {
            due("next(" + tries + ", 0)", x.next(tries, 0), due[tries]);
            due("next(" + tries + ", 1)", x.next(tries, 1), first[tries]);
        }
        due("next(7, 0)", x.next(7, 0), -1);
        due("next(-1, 0)", x.next(-1, 0), -1);
        due("next(1, 2)", x.next(1, 2), -1);
        due("next(1, -1)", x.next(1, -1), -1);
        x.pull(2, true, 2);
        due("torn: next(3, 0)", x.next(3, 0), 32000);
        due("torn: next(3, 1)", x.next(3, 1), 0);
        x = told("kite worth 5 paper 3 ;");
        due("down: next(3, 0)", x.next(3, 0), 5000);
    }

    private static void nextOfMore() {
        String one = "twig a high 9 thick 7 side east ; string a ; kite worth 100 paper 1 ; ";
        // Soft it runs 3 of ten, tears 2 of the rest; hard 6, and 3.
        ElmKite x = told(one + "run 3 + 3 * force ; tear 2 + force ;");
        due("hard", x.next(1, 0), 60000);
        due("hard is 5", x.next(1, 1), 5);
        due("two: 60 + .4 * .7 * 60", x.next(2, 0), 76800);
        due("three: 60 + .4 * .7 * 76.8", x.next(3, 0), 81504);
        due("four: 60 + .28 * 81.504 = 82.82112", x.next(4, 0), 82821);
        due("five: 60 + .28 * 82.821 = 83.18988", x.next(5, 0), 83189);
        // A TIGHT one is eased first.
        x = told(one + "run 10 - 2 * tight ; tear 10 ;");
        x.pull(1, false, 1);
        due("it can't have bitten", x.next(1, 0), 100000);
        x = told(one + "run 2 + 6 * (tight = 0) ; tear 5 * (0 < tight) ;");
        x.pull(0, false, 1);
        due("tight: 2 of ten", x.next(1, 0), 20000);
        due("tight: pull", x.next(1, 1), 1);
        due("tight: slack first", x.next(2, 0), 80000);
        due("tight: slack is 9", x.next(2, 1), 9);
        // Waiting costs nothing but tries.
        x = told(one + "run 0 ; lift 3 ; wind east 0 0 ;");
        due("lift", x.next(1, 0), 30000);
        due("lift is 10", x.next(1, 1), 10);
        due("two: 30 + .7 * 30", x.next(2, 0), 51000);
        x.hour(0);
        due("the wind comes from elsewhere", x.next(2, 0), 0);
        // The second thing frees more and is worth more: .4 * (100 + 20) + .1 * 20, of the first 20 more.
        x = told(one + "run 0 ; thing p worth 20 stuck 5 frees 2 ; thing q worth 20 stuck 5 frees 4 ;");
        due("hurl q: .4 * 140 + .5 * 20 + .1 * 40", x.next(1, 0), 70000);
        due("q is 12", x.next(1, 1), 12);
        x.hurl(1, 1);
        due("p: .2 * 120 + .5 * 0 + .3 * 20", x.next(1, 0), 30000);
        due("p is 11", x.next(1, 1), 11);
        x = told(one + "run 0 ; kite".replace("kite", "thing p worth 20 stuck 10 frees 0 ;"));
        due("better to stop", x.next(6, 1), 0);
    }

    private static void tell() {
        ElmKite x = told(UP);
        due("tell(4, true)", x.tell(4, true), false);
        due("tell(-1, true)", x.tell(-1, true), false);
        for (int i = 0; i < 12; i++) {
            due("tell", x.tell(i % 4, i % 2 == 0), true);
        }
        due("12 are told", x.tell(0, true), false);
        due("count(9)", x.count(9), 12);
        due("it isn't undone", x.undo(), false);
    }

    private static void likely() {
        // Loose and soft, by the side a pull is from: low 10 3 0 3, mid 3 10 3 0, top 3 0 3 10.
        ElmKite x = told(THREE);
        due("of none told: fits()", x.fits(), 7);
        due("of none told: likely(0)", x.likely(0), 0);
        due("of none told: likely(1)", x.likely(1), 333333);
        x.tell(1, false);
        due("7 0 10: fits()", x.fits(), 5);
        due("7 0 10: likely(0)", x.likely(0), 2);
        due("7 0 10: likely(1)", x.likely(1), 588235);
        x.tell(2, true);
        due("0 0 30: fits()", x.fits(), 4);
        due("0 0 30: likely(1)", x.likely(1), 1000000);
        due("likely(2)", x.likely(2), -1);
        due("likely(-1)", x.likely(-1), -1);
        x.tell(3, false);
        due("none: fits()", x.fits(), 0);
        due("none: likely(0)", x.likely(0), -1);
        due("none: likely(1)", x.likely(1), -1);
        due("none: tells()", x.tells(), -1);
        x = told("twig a high 1 thick 3 side north ; twig b high 1 thick 5 side north ; run size - away ;");
        for (int i = 0; i < 12; i++) {
            x.tell(0, true);
        }
        // 3^12 and 5^12: 244140625 / 244672066.
        due("12 told: likely(0)", x.likely(0), 1);
        due("12 told: likely(1)", x.likely(1), 997827);
    }

    private static void tells() {
        ElmKite x = told(THREE);
        // Greatest of running and of not: north 10 + 7, east 10 + 10, south 3 + 10, west 10 + 10.
        due("tells()", x.tells(), 1);
        x.tell(0, true);
        // Products 10 3 3: north 100 + 21, east 30 + 70, south 9 + 100, west 30 + 70.
        due("tells()", x.tells(), 0);
        due("nothing told, no twig", new ElmKite().tells(), -1);
        x = told("twig a high 1 thick 1 side south ;");
        due("of equal ones the first", x.tells(), 0);
    }

    private static void cut() {
        ElmKite x = told(UP);
        // From north: low (0), mid (1), top (2).
        int[] left = {2, 1, 1, 0, 0};
        int[] lost = {9, 0, 0, 0, 0};
        for (int steps = 0; steps < left.length; steps++) {
            due("cut(0, " + steps + ", 0)", x.cut(0, steps, 0), left[steps]);
            due("cut(0, " + steps + ", 1)", x.cut(0, steps, 1), lost[steps]);
        }
        due("cut(3, 0, 0)", x.cut(3, 0, 0), 3);
        due("cut(3, 0, 1)", x.cut(3, 0, 1), 20);
        due("cut(3, 1, 0)", x.cut(3, 1, 0), 2);
        due("cut(2, 1, 0)", x.cut(2, 1, 0), 3);
        due("cut(2, 20, 0)", x.cut(2, 20, 0), 0);
        due("cut(0, 21, 0)", x.cut(0, 21, 0), -1);
        due("cut(0, -1, 0)", x.cut(0, -1, 0), -1);
        due("cut(4, 1, 0)", x.cut(4, 1, 0), -1);
        due("cut(-1, 1, 0)", x.cut(-1, 1, 0), -1);
        due("cut(0, 1, 2)", x.cut(0, 1, 2), -1);
        due("cut(0, 1, -1)", x.cut(0, 1, -1), -1);
        x = told(UP + "ladder 20 pole 0 ;");
        x.climb(1, true);
        due("top and low: cut(2, 0, 1)", x.cut(2, 0, 1), 19);
        x.pull(2, true, 2);
        due("torn: cut(0, 0, 0)", x.cut(0, 0, 0), -1);
    }

    private static void waits() {
        ElmKite x = told(UP + "wind north 2 3 ;");
        due("waits(0, 0)", x.waits(0, 0), 1000000);
        due("waits(1, 0)", x.waits(1, 0), 0);
        due("waits(1, 1)", x.waits(1, 1), 200000);
        due("waits(3, 1)", x.waits(3, 1), 300000);
        // South by east or by west: .2 * .2 + .3 * .3.
        due("waits(2, 2)", x.waits(2, 2), 130000);
        // Ahead of three hours: .5 * .13 + .2 * (.2 + .5 * .2) + .3 * (.3 + .5 * .3).
        due("waits(2, 3)", x.waits(2, 3), 260000);
        due("waits(2, 49)", x.waits(2, 49), -1);
        due("waits(2, -1)", x.waits(2, -1), -1);
        due("waits(4, 3)", x.waits(4, 3), -1);
        due("waits(-1, 3)", x.waits(-1, 3), -1);
        // From east it turns on 1 of ten: .1, .19, .271, .3439, .40951, .468559, .5217031 cut at each hour.
        x = told("wind east 1 0 ; kite worth 1 paper 9 ;");
        int[] due = {0, 100000, 190000, 271000, 343900, 409510, 468559, 521703, 569532};
        for (int hours = 0; hours < due.length; hours++) {
            due("waits(2, " + hours + ")", x.waits(2, hours), due[hours]);
        }
        // From 12 with paper 3 and dew 2: 1 at 20, 0 at 21; 8 hours count.
        x = told(UP.replace("paper 6", "paper 3") + "dew 2 ; wind east 1 0 ;");
        due("waits(2, 8)", x.waits(2, 8), 569532);
        due("waits(2, 9)", x.waits(2, 9), 569532);
        due("waits(2, 48)", x.waits(2, 48), 569532);
        x.pull(2, true, 2);
        due("as if it stayed up: waits(2, 48)", x.waits(2, 48), 569532);
        x = told("kite worth 1 paper 0 ; wind east 1 0 ;");
        due("paper 0: waits(1, 0)", x.waits(1, 0), 0);
    }

    private static void lasts() {
        due("no dew: lasts()", told(UP).lasts(), -1);
        due("paper 0: lasts()", told("kite worth 1 paper 0 ;").lasts(), 0);
        ElmKite x = told(UP + "dew 2 ;");
        due("6, 2: lasts()", x.lasts(), 10);
        x.hour(0);
        due("an hour on: lasts()", x.lasts(), 9);
        due("11, 1: lasts()", told("dew 1 ; kite worth 0 paper 11 ;").lasts(), 32);
        due("10, 1: lasts()", told("dew 1 ; kite worth 0 paper 10 ;").lasts(), 17);
        due("99, 1: lasts()", told("dew 1 ; kite worth 0 paper 99 ;").lasts(), 232);
    }

    private static void far() {
        ElmKite x = told(UP + "weighs 9 ;");
        due("far(0)", x.far(0), 3);
        due("far(1)", x.far(1), 0);
        due("far(2)", x.far(2), -1);
        due("far(3)", x.far(3), -1);
        due("far(-1)", x.far(-1), -1);
        due("far of a thick one", told("twig a high 1 thick 20 side east ; weighs 1 ;").far(0), 19);
    }

    private static void minutes() {
        String three = THREE + "weighs 9 ; ";
        due("climbing: minutes(0)", told(three).minutes(0), 10);
        due("climbing: minutes(1)", told(three).minutes(1), 20);
        due("none can: minutes(2)", told(three).minutes(2), -1);
        due("minutes(3)", told(three).minutes(3), -1);
        due("minutes(-1)", told(three).minutes(-1), -1);
        due("pole: minutes(0)", told(three + "ladder 0 pole 10 ;").minutes(0), 2);
        due("ladder: minutes(0)", told(three + "ladder 10 pole 9 ;").minutes(0), 5);
        due("both: minutes(0)", told(three + "ladder 9 pole 1 ;").minutes(0), 9);
        due("both: minutes(2)", told(three + "ladder 14 pole 14 ;").minutes(2), 9);
        due("neither: minutes(2)", told(three + "ladder 14 pole 13 ;").minutes(2), -1);
        due("climbing is less", told("twig a high 3 thick 20 side east ; ladder 3 pole 0 ;").minutes(0), 3);
        due("climbing 1", told("twig a high 1 thick 20 side east ; ladder 3 pole 3 ;").minutes(0), 1);
    }

    private static void safe() {
        ElmKite x = told("cord 3 ; elm 5 5 ; elm 5 6 ; elm 0 0 ;");
        due("safe(5, 5)", x.safe(5, 5), 0);
        due("from the north it flies south", x.safe(5, 2), 14);
        due("cord is 3", x.safe(5, 1), 15);
        due("from the south it flies north", x.safe(5, 9), 11);
        due("cord is 3", x.safe(5, 10), 15);
        due("from the east it flies west", x.safe(8, 5), 13);
        due("from the west it flies east", x.safe(2, 6), 7);
        due("the edge", x.safe(3, 0), 13);
        due("the edge", x.safe(0, 3), 11);
        due("the other edge", x.safe(15, 15), 15);
        due("safe(16, 0)", x.safe(16, 0), -1);
        due("safe(0, 16)", x.safe(0, 16), -1);
        due("safe(-1, 0)", x.safe(-1, 0), -1);
        due("safe(0, -1)", x.safe(0, -1), -1);
        due("cord 5 if not told", told("elm 9 9 ;").safe(9, 4), 14);
        due("cord 5 if not told", told("elm 9 9 ;").safe(9, 3), 15);
    }

    private static void places() {
        ElmKite x = told("cord 3 ; elm 5 5 ; elm 5 6 ; elm 0 0 ;");
        // North: the two themselves and 3 above; the corner itself. East: 4 each, and 4 in the corner's row.
        due("places(0)", x.places(0), 250);
        due("places(1)", x.places(1), 244);
        due("places(2)", x.places(2), 247);
        due("places(3)", x.places(3), 247);
        due("places(-1)", x.places(-1), 229);
        due("places(4)", x.places(4), -1);
        due("places(-2)", x.places(-2), -1);
    }

    private static void nearest() {
        ElmKite x = told("cord 1 ; elm 5 5 ;");
        due("nearest(5, 5)", x.nearest(5, 5), 2);
        due("nearest(5, 4)", x.nearest(5, 4), 1);
        due("nearest(4, 4)", x.nearest(4, 4), 0);
        due("nearest(16, 4)", x.nearest(16, 4), -1);
        due("nearest(4, -1)", x.nearest(4, -1), -1);
        x = told("cord 15 ; elm 0 0 ; elm 1 1 ; elm 2 2 ; elm 3 3 ; elm 4 4 ; elm 5 5 ; elm 6 6 ; elm 7 7 ;");
        due("far off", x.nearest(0, 0), 16);
        due("far off", x.places(-1), 64);
    }

    private static void came() {
        ElmKite x = told(TWO);
        due("came(-1, 0)", x.came(-1, 0), 2);
        due("came(0, 0)", x.came(0, 0), 0);
        due("came(0, 1)", x.came(0, 1), 1);
        due("came(2, 0)", x.came(2, 0), -2);
        due("came(-2, 0)", x.came(-2, 0), -2);
        due("came(0, 2)", x.came(0, 2), -2);
        due("came(0, -1)", x.came(0, -1), -2);
        String four = TWO + "thing ball worth 0 stuck 0 frees 0 ; thing cap worth 0 stuck 0 frees 0 ; ";
        x = told(four + "over shoe ball ; over ball stone ;");
        // shoe ball stone in this order, cap anywhere.
        due("came(-1, 1)", x.came(-1, 1), 4);
        int[] first = {2, 0, 1, 0};
        int[] last = {3, 1, 2, 3};
        for (int thing = 0; thing < 4; thing++) {
            due("came(" + thing + ", 0)", x.came(thing, 0), first[thing]);
            due("came(" + thing + ", 1)", x.came(thing, 1), last[thing]);
        }
        due("24 rows", told(four).came(-1, 0), 24);
        x = told(four + "over shoe ball ; over ball stone ; over stone shoe ;");
        due("no row: came(-1, 0)", x.came(-1, 0), 0);
        due("no row: came(3, 0)", x.came(3, 0), -2);
    }

    private static void afternoons() {
        ElmKite x = told(UP);
        due("it always runs", x.afternoons(5, 2, 3, 0), 164);
        due("it always runs", x.afternoons(5, 20, 6, 0), 1640);
        due("two are not enough", x.afternoons(5, 2, 2, 0), 64);
        due("all is as ahead", x.count(2), 3);
        due("nothing to undo", x.count(10), 0);
        due("seed -1", x.afternoons(-1, 2, 3, 0), -1);
        due("seed 10000", x.afternoons(10000, 2, 3, 0), -1);
        due("seed 9999", x.afternoons(9999, 1, 3, 0), 82);
        due("many 0", x.afternoons(5, 0, 3, 0), -1);
        due("many 21", x.afternoons(5, 21, 3, 0), -1);
        due("tries 0", x.afternoons(5, 2, 0, 0), -1);
        due("tries 7", x.afternoons(5, 2, 7, 0), -1);
        due("what 3", x.afternoons(5, 2, 3, 3), -1);
        due("what -1", x.afternoons(5, 2, 3, -1), -1);
        x.pull(2, true, 2);
        due("torn: worth", x.afternoons(5, 3, 3, 0), 96);
        due("torn ahead: none tears", x.afternoons(5, 3, 3, 1), 0);
        due("torn ahead: nothing sticks", x.afternoons(5, 3, 3, 2), 0);
    }

    /** What stuck or tore by hand ahead of the afternoons is none of theirs. */
    private static void afternoonsBehindTries() {
        ElmKite x = told(UP);
        x.hurl(0, 1);
        due("to stop is the first: worth", x.afternoons(0, 1, 1, 0), x.worth());
        due("to stop is the first: stuck", x.afternoons(0, 1, 1, 2), 0);
        due("stuck ahead, 20 times", x.afternoons(3, 20, 6, 2), 0);
        String one = "twig a high 9 thick 7 side east ; string a ; kite worth 100 paper 1 ; run 0 ; ";
        x = told(one + "thing p worth 3 stuck 10 frees 0 ; thing q worth 1 stuck 4 frees 3 ;");
        int all = x.afternoons(9, 20, 4, 2);
        due("some stick", all > 0, true);
        x.hurl(0, 1);
        due("the other one sticks as often", x.afternoons(9, 20, 4, 2), all);
        due("all is as ahead", x.thing(1, 3), 1);
        x.hurl(1, 1);
        due("both are up there", x.afternoons(9, 20, 4, 2), 0);
        x.undo();
        due("it is in the hand again", x.afternoons(9, 20, 4, 2), all);
        x.pull(0, true, 2);
        due("torn ahead: none sticks", x.afternoons(9, 20, 4, 2), 0);
        due("torn ahead: none tears", x.afternoons(9, 20, 4, 1), 0);
        due("torn ahead: worth", x.afternoons(9, 20, 4, 0), 20);
        x.undo();
        x.hurl(1, 2);
        due("down ahead: none sticks", x.afternoons(9, 20, 4, 2), 0);
        due("down ahead: none tears", x.afternoons(9, 20, 4, 1), 0);
        due("down ahead: worth", x.afternoons(9, 20, 4, 0), 20 * 101);
    }

    /** The draws one by one, by the document's words. */
    private static void afternoonsByHand() {
        String one = "twig a high 9 thick 7 side east ; string a ; kite worth 100 paper 1 ; ";
        ElmKite x = told(one + "run 5 ; tear 5 ;");
        long g = 77;
        int torn = 0;
        int down = 0;
        for (int i = 0; i < 20; i++) {
            for (int yet = 3; yet > 0; yet--) {
                g = (g * 1103515245L + 12345L) % 2147483648L;
                if (g / 65536 % 10 < 5) {
                    down++;
                    break;
                }
                g = (g * 1103515245L + 12345L) % 2147483648L;
                if (g / 65536 % 10 < 5) {
                    torn++;
                    break;
                }
            }
        }
        due("pulls: worth", x.afternoons(77, 20, 3, 0), 100L * down);
        due("pulls: torn", x.afternoons(77, 20, 3, 1), torn);
        due("pulls: stuck", x.afternoons(77, 20, 3, 2), 0);
        x = told(one + "run 0 ; thing p worth 3 stuck 4 frees 3 ;");
        g = 9;
        down = 0;
        int stuck = 0;
        for (int i = 0; i < 20; i++) {
            for (int yet = 4; yet > 0; yet--) {
                g = (g * 1103515245L + 12345L) % 2147483648L;
                long drawn = g / 65536 % 10;
                if (drawn < 4) {
                    stuck++;
                    break;
                }
                if (drawn < 7) {
                    down++;
                    break;
                }
            }
        }
        due("throws: worth", x.afternoons(9, 20, 4, 0), 100L * down + 3L * (20 - stuck));
        due("throws: stuck", x.afternoons(9, 20, 4, 2), stuck);
        x = told(one + "run 0 ; lift 2 ; wind east 0 0 ;");
        g = 0;
        down = 0;
        for (int i = 0; i < 15; i++) {
            for (int yet = 2; yet > 0; yet--) {
                g = (g * 1103515245L + 12345L) % 2147483648L;
                if (g / 65536 % 10 < 2) {
                    down++;
                    break;
                }
            }
        }
        due("lifts: worth", x.afternoons(0, 15, 2, 0), 100L * down);
    }

    private static void mark() {
        ElmKite x = told(UP + "wind north 1 1 ; dew 1 ;");
        due("nothing on it", x.mark(0, true), false);
        due("mark(4, false)", x.mark(4, false), false);
        due("mark(-1, false)", x.mark(-1, false), false);
        due("mark(4, true)", x.mark(4, true), false);
        x.pull(2, true, 1);
        x.hurl(0, 1);
        for (int i = 0; i < 9; i++) {
            x.hour(3);
        }
        x.tell(0, true);
        due("it is laid", x.mark(3, false), true);
        due("it can be undone yet", x.count(10), 11);
        x.hour(1);
        x.tell(1, true);
        x.pull(2, true, 2);
        due("torn", x.count(5), 2);
        due("gone back to", x.mark(3, true), true);
        int[] all = {3, 2, 3, 21, 3, 0, 4, 0, 0, 1, 0, 0, 1};
        for (int what = 0; what < all.length; what++) {
            due("gone back to: count(" + what + ")", x.count(what), all[what]);
        }
        due("gone back to: tight", x.twig(0, 4), 2);
        due("gone back to: what is told", x.likely(1), 625000);
        due("nothing can be undone", x.undo(), false);
        x.hour(2);
        due("gone back to again", x.mark(3, true), true);
        due("gone back to again", x.count(3), 21);
        due("others", x.mark(2, true), false);
        due("a tree more", Feeding.tree(x, UP), 0);
        due("no mark is there", x.mark(3, true), false);
    }

    private static void count() {
        ElmKite x = told(UP + "wind west 1 1 ; elm 1 1 ; elm 2 1 ;");
        Feeding.afternoon(x, "slack ; slack ;");
        x.feed(Feeding.packed("twig", 0), 0, 0);
        x.hour(2);
        x.tell(0, true);
        x.hurl(0, 1);
        x.pull(0, false, 0);
        int[] all = {3, 2, 2, 13, 2, 0, 6, 2, 2, 1, 3, 4, 1};
        for (int what = 0; what < all.length; what++) {
            due("count(" + what + ")", x.count(what), all[what]);
        }
        due("count(13)", x.count(13), -1);
        due("count(-1)", x.count(-1), -1);
    }

    private static void constants() {
        due("NONE", ElmKite.NONE, -1);
    }
}
