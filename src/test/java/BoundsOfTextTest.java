/** "What it is" and Terms 1: each sentence that names a bound, at it, one below it and one above it. */
public final class BoundsOfTextTest {
    private static final String A = "twig a high 9 thick 9 side east ; ";
    private static final String B = "twig b high 9 thick 9 side south ; ";
    private static final String C = "twig c high 9 thick 9 side west ; ";
    private static final String P = "thing p worth 1 stuck 2 frees 3 ; ";
    private static final String Q = "thing q worth 4 stuck 2 frees 3 ; ";
    private static final String UP = A + B + C + "string a b c ; kite worth 50 paper 6 ; " + P + Q;
    private static final String[] SIDES = {"north", "east", "south", "west"};
    private static final String[] RESERVED = ("twig high thick side on string kite worth paper thing stuck frees over "
            + "wind lift dew ladder pole weighs cord elm run tear pull slack lifts hurl climb poke hour north east south "
            + "west soft hard runs bites tears down sticks not and or").split(" ");

    private static final Checks CHECKS = new Checks();

    private BoundsOfTextTest() {
    }

    public static void main(String[] args) {
        calls();
        callsOfEachKind();
        tapeLength();
        tapeSigns();
        tapeIsTaken();
        tokensAsLongAsCanBe();
        blanks();
        words();
        numbers();
        signs();
        noneAtTheirFirstSign();
        anyNumberOfLines();
        twigs();
        twigHigh();
        twigThick();
        twigSide();
        twigOn();
        string();
        stringOnce();
        kite();
        things();
        thingChances();
        over();
        wind();
        liftAndDew();
        ladderAndPole();
        weighs();
        cord();
        elms();
        once();
        afternoonLines();
        afternoonForms();
        names();
        namesAlike();
        lawsFromTheLeft();
        lawsTests();
        lawsDepth();
        lawsFacts();
        lawsOfEachTwig();
        lawsTruth();
        lawsWrap();
        withoutRun();
        withoutTear();
        faultPlaces();
        faultFirst();
        faultLeast();
        faultKinds();
        treeFromThenOn();
        treeAfterTree();
        treeUpOrDown();
        faultAllStays();
        afternoonFromThenOn();
        atFirst();
        CHECKS.end("BoundsOfTextTest");
    }

    private static void of(String sentence) {
        CHECKS.of(sentence);
    }

    private static void due(String call, long got, long want) {
        CHECKS.due(call, got, want);
    }

    private static void due(String call, boolean got, boolean want) {
        CHECKS.due(call, got, want);
    }

    private static void stands(String text) {
        CHECKS.treeStands(text);
    }

    private static void fault(int kind, String marked) {
        CHECKS.treeFault(kind, marked);
    }

    private static void dayStands(String text) {
        CHECKS.dayStands(UP, text);
    }

    private static void dayFault(int kind, String marked) {
        CHECKS.dayFault(UP, kind, marked);
    }

    private static ElmKite told(String text) {
        return Feeding.told(text);
    }

    private static ElmKite fed(String text) {
        ElmKite x = new ElmKite();
        Feeding.feed(x, text);
        return x;
    }

    // ---- What it is

    private static void calls() {
        of("An object is used for at most 512 calls after it has been made");
        ElmKite x = new ElmKite();
        for (int call = 1; call <= 512; call++) {
            due("hour(2), call " + call, x.hour(2), (12 + call) % 24);
        }
        x = new ElmKite();
        for (int call = 1; call <= 511; call++) {
            due("feed of two, call " + call, x.feed(32, 0, 10), Math.min(1000, 2 * call));
        }
        due("tree(), call 512", x.tree(), 0);
        x = new ElmKite();
        for (int call = 1; call <= 255; call++) {
            due("mark, call " + (2 * call - 1), x.mark(call % 4, false), true);
            due("mark, gone back to, call " + 2 * call, x.mark(call % 4, true), true);
        }
        due("tell(3, true), call 511", x.tell(3, true), true);
        due("count(9), call 512", x.count(9), 1);
    }

    private static void callsOfEachKind() {
        of("An object is used for at most 512 calls after it has been made");
        String text = UP + "run 5 ; tear 3 ; lift 4 ; over p q ;";
        ElmKite x = told(text);
        int calls = (text.length() + 23) / 24 + 1;
        int mean = x.next(6, 0);
        int inAll = x.afternoons(7, 20, 6, 0);
        for (calls += 2; calls < 510; calls += 3) {
            due("next(6, 0), call " + (calls + 1), x.next(6, 0), mean);
            due("afternoons(7, 20, 6, 0), call " + (calls + 2), x.afternoons(7, 20, 6, 0), inAll);
            due("came(1, 0), call " + (calls + 3), x.came(1, 0), 1);
        }
        x = told(text);
        for (calls = (text.length() + 23) / 24 + 1; calls < 510; calls += 3) {
            due("pull(0, true, 1), call " + (calls + 1), x.pull(0, true, 1), 3);
            due("slack(), call " + (calls + 2), x.slack(), 1);
            due("slack(), call " + (calls + 3), x.slack(), 0);
        }
    }

    // ---- Terms 1, the TAPE

    private static void tapeLength() {
        of("The TAPE has at most 1,000 signs");
        ElmKite x = fed(" ".repeat(998));
        due("count(11) behind 998", x.count(11), 998);
        due("feed of the 999th", x.feed(32, 0, 0), 999);
        due("feed of the 1,000th", x.feed(0, 32, 0), 1000);
        due("feed of one more", x.feed(0, 0, 32), 1000);
        due("count(11)", x.count(11), 1000);
        x = fed(" ".repeat(984));
        due("feed of 24 behind 984", x.feed(0x2020202020202020L, 0x2020202020202020L, 0x2020202020202020L), 1000);
        stands(" ".repeat(992) + "dew 3 ;");
        stands(" ".repeat(993) + "dew 3 ;");
        CHECKS.treeFaultAt(1, 1000, " ".repeat(994) + "dew 3 ;");
        stands(" ".repeat(993) + "dew 3 ;x");
        CHECKS.treeFaultAt(1, 999, " ".repeat(992) + "dew 3 ;x");
        CHECKS.treeFaultAt(1, 999, " ".repeat(999) + "xy");
    }

    private static void tapeSigns() {
        of("The TAPE has .. signs, 10 and 32 .. 126");
        for (int sign = 0; sign < 256; sign++) {
            int many = sign == 10 || sign >= 32 && sign <= 126 ? 1 : 0;
            ElmKite x = new ElmKite();
            due("feed of " + sign + " as lowest byte", x.feed(sign, 0, 0), many);
            due("feed of " + sign + " as highest byte", x.feed(0, (long) sign << 56, 0), 2 * many);
            due("count(11) behind " + sign, x.count(11), 2 * many);
        }
        // What is left out stands between nothing: the letters are one WORD.
        ElmKite x = new ElmKite();
        x.feed(0x6465097F1F770B00L, 0x00208033FF203B00L, 0);
        due("signs left out between: tree()", x.tree(), 0);
    }

    private static void tapeIsTaken() {
        of("what reads it takes it: it is empty then");
        ElmKite x = fed("dew 3 ;");
        due("tree()", x.tree(), 0);
        due("count(11) behind a TREE", x.count(11), 0);
        due("the empty TAPE is a TREE", x.tree(), 0);
        Feeding.feed(x, "dew 10 ;");
        due("tree()", x.tree(), 4 + 16 * 4);
        due("count(11) behind a FAULT", x.count(11), 0);
        due("feed of one", x.feed(59, 0, 0), 1);
        due("afternoon()", x.afternoon(), 1);
        due("count(11) behind a FAULT of an AFTERNOON", x.count(11), 0);
        Feeding.feed(x, "slack ;");
        due("afternoon()", x.afternoon(), 0);
        due("count(11) behind an AFTERNOON", x.count(11), 0);
        due("the empty TAPE is an AFTERNOON", x.afternoon(), 0);
        due("feed of two", x.feed(59, 59, 0), 2);
    }

    private static void tokensAsLongAsCanBe() {
        of("TOKENS, each as long as can be");
        fault(1, "^twigs a high 9 thick 9 side east ;");
        fault(1, "^dewdew 3 ;");
        fault(1, "dew 3 ^3 ;");
        stands("weighs 33 ;");
        fault(4, "weighs ^333 ;");
        fault(1, "twig a high 9 thick 9 side ^eastona ;");
        due("notes is no not", Feeding.tree(new ElmKite(), "run notes ;"), 1 + 16 * 4);
    }

    private static void blanks() {
        of("blanks (10, 32) between where one likes");
        stands("");
        stands(" ");
        stands("\n");
        stands("\n \n");
        stands("dew 3;");
        stands("dew3;");
        stands("dew\n3\n;\n");
        stands("  \n\n dew \n  3 \n\n ; ");
        stands("lift3;dew3;run(tight)+1;");
        fault(1, "^de w 3 ;");
        fault(1, "weighs 3 ^3 ;");
        CHECKS.treeFaultAt(1, 8, "dew 3 \n ");
        CHECKS.treeFaultAt(1, 5, "dew\t3 ");
    }

    private static void words() {
        of("WORDS (letters a .. z, 8 at most)");
        stands("twig a high 9 thick 9 side east ;");
        stands("twig az high 9 thick 9 side east ;");
        stands("twig abcdefg high 9 thick 9 side east ;");
        stands("twig abcdefgh high 9 thick 9 side east ;");
        fault(1, "twig ^abcdefghi high 9 thick 9 side east ;");
        fault(1, "twig ^abcdefghabcdefgh high 9 thick 9 side east ;");
        stands("twig zzzzzzzz high 9 thick 9 side east ; twig zzzzzzzy high 9 thick 9 side east on zzzzzzzz ;");
        stands("twig yzzzzzzz high 9 thick 9 side east ; twig zzzzzzzz high 9 thick 9 side east on yzzzzzzz ;");
        // a is not aa, and not nothing.
        stands("twig a high 9 thick 9 side east ; twig aa high 9 thick 9 side east ; twig aaaaaaaa high 9 thick 9 side east ;");
        fault(1, "twig ^`");
        fault(1, "twig ^{");
        fault(1, "twig ^A");
        fault(1, "twig ^Z");
        fault(1, "twig a^`");
        fault(1, "twig z^{");
        fault(1, "twig a^A");
        fault(1, "twig a^1");
    }

    private static void numbers() {
        of("NUMBERS (1 to 4 digits; a letter may stand right behind)");
        due("cord 1", told("cord 1 ; elm 5 5 ;").safe(5, 3), 15);
        due("cord 01", told("cord 01 ; elm 5 5 ;").safe(5, 3), 15);
        due("cord 0001", told("cord 0001 ; elm 5 5 ;").safe(5, 3), 15);
        fault(1, "cord ^00001 ;");
        fault(1, "cord ^000001 ;");
        fault(1, "cord ^10000 ;");
        due("9999", told(A + "string a ; run 9999 - 9998 ;").chance(0, false, 0), 1);
        due("0 to 9", told(A + "string a ; run 1234 + 5678 + 90 - 6992 ;").chance(0, false, 0), 10);
        fault(1, "run ^99999 ;");
        stands("twig a high 9thick 9side east ;");
        stands("twig a high 0009thick 0009side east;");
        fault(1, "twig a high ^00009thick 9 side east ;");
        fault(1, "dew ^/");
        fault(1, "dew ^:");
        fault(1, "dew ^x3");
    }

    private static void signs() {
        of("the signs ( ) < = + - * ;  All else .. is none");
        for (char sign = 33; sign < 127; sign++) {
            String text = "run 1 " + sign + " 2 ;";
            if ("<=+-*".indexOf(sign) >= 0) {
                stands(text);
            } else {
                CHECKS.treeFaultAt(1, sign == ';' ? 8 : 6, text);
            }
            CHECKS.treeFaultAt(1, 0, sign + " dew 3 ;");
        }
        stands("run (1) ;");
    }

    private static void noneAtTheirFirstSign() {
        of("All else (a longer WORD or NUMBER, too, at its first sign) is none");
        fault(1, "^abcdefghi");
        fault(1, "dew 3 ; ^abcdefghi 3 ;");
        fault(1, "dew ^12345 ;");
        fault(1, "dew 3 ^12345");
        fault(1, "dew 3 ; ^% dew 12345 ;");
        fault(1, "dew 3 ^%% ;");
        fault(1, "dew ^.3 ;");
    }

    // ---- Terms 1, the lines of a TREE

    private static void anyNumberOfLines() {
        of("TREE: any number of");
        due("none: count(0)", told("").count(0), 0);
        due("one: count(0)", told(A).count(0), 1);
        StringBuilder all = new StringBuilder();
        for (char name = 'a'; name < 'i'; name++) {
            all.append("twig ").append(name).append(" high 1thick 1side east;");
        }
        for (char name = 's'; name < 'w'; name++) {
            all.append("thing ").append(name).append(" worth 1stuck 1frees 1;");
        }
        for (char one = 's'; one < 'w'; one++) {
            for (char two = 's'; two < 'w'; two++) {
                all.append(one == two ? "" : "over " + one + " " + two + ";");
            }
        }
        for (int i = 0; i < 8; i++) {
            all.append("elm ").append(i).append(" 15;");
        }
        all.append("string a b c d e f;kite worth 9paper 9;wind west 1 1;lift 1;dew 1;ladder 1pole 1;weighs 1;cord 1;run 1;tear 1;");
        ElmKite x = told(all.toString());
        due("all lines there can be: count(0)", x.count(0), 8);
        due("all lines there can be: count(1)", x.count(1), 4);
        due("all lines there can be: count(7)", x.count(7), 8);
        due("all lines there can be: came(-1, 0)", x.came(-1, 0), 0);
    }

    private static String twigs(int many) {
        StringBuilder text = new StringBuilder();
        for (int i = 0; i < many; i++) {
            text.append("twig ").append((char) ('a' + i)).append(" high ").append(i + 1).append(" thick 9 side east ; ");
        }
        return text.toString();
    }

    private static void twigs() {
        of("twig: 8 at most, numbered as told");
        due("seven: count(0)", told(twigs(7)).count(0), 7);
        ElmKite x = told(twigs(8));
        due("eight: count(0)", x.count(0), 8);
        for (int twig = 0; twig < 8; twig++) {
            due("twig(" + twig + ", 0)", x.twig(twig, 0), twig + 1);
        }
        fault(5, twigs(8) + "^twig i high 9 thick 9 side east ;");
        fault(5, twigs(8) + "dew 3 ; ^twig a");
    }

    private static void twigHigh() {
        of("high 1 to 60");
        fault(4, "twig a high ^0 thick 1 side east ;");
        due("high 1", told("twig a high 1 thick 1 side east ;").twig(0, 0), 1);
        due("high 2", told("twig a high 2 thick 1 side east ;").twig(0, 0), 2);
        due("high 59", told("twig a high 59 thick 1 side east ;").twig(0, 0), 59);
        due("high 60", told("twig a high 60 thick 1 side east ;").twig(0, 0), 60);
        fault(4, "twig a high ^61 thick 1 side east ;");
        fault(4, "twig a high ^9999 thick 1 side east ;");
    }

    private static void twigThick() {
        of("thick 1 to 20");
        fault(4, "twig a high 1 thick ^0 side east ;");
        due("thick 1", told("twig a high 2 thick 1 side east ;").twig(0, 1), 1);
        due("thick 2", told("twig a high 3 thick 2 side east ;").twig(0, 1), 2);
        due("thick 19", told("twig a high 2 thick 19 side east ;").twig(0, 1), 19);
        due("thick 20", told("twig a high 2 thick 20 side east ;").twig(0, 1), 20);
        fault(4, "twig a high 1 thick ^21 side east ;");
        fault(4, "twig a high 1 thick ^9999 side east ;");
    }

    private static void twigSide() {
        of("SIDE: north, east, south, west (0 to 3)");
        for (int side = 0; side < 4; side++) {
            due(SIDES[side], told("twig a high 1 thick 1 side " + SIDES[side] + " ;").twig(0, 2), side);
            due("wind " + SIDES[side], told("wind " + SIDES[side] + " 0 0 ;").count(4), side);
        }
        fault(1, "twig a high 1 thick 1 side ^0 ;");
        fault(1, "twig a high 1 thick 1 side ^soft ;");
        fault(1, "twig a high 1 thick 1 side ^hour ;");
        fault(1, "twig a high 1 thick 1 side ^up ;");
        fault(1, "twig a high 1 thick 1 side ^;");
    }

    private static void twigOn() {
        of("ON is nothing or   on NAME   (a TWIG told)");
        ElmKite x = told(A + "twig b high 9 thick 9 side south on a ; twig c high 9 thick 9 side south on b ; "
            + "twig d high 9 thick 9 side south on a ;");
        int[] on = {-1, 0, 1, 0};
        for (int twig = 0; twig < 4; twig++) {
            due("twig(" + twig + ", 3)", x.twig(twig, 3), on[twig]);
        }
        fault(2, "twig a high 9 thick 9 side east on ^a ;");
        fault(2, "twig a high 9 thick 9 side east on ^b ; " + B);
        fault(2, P + "twig a high 9 thick 9 side east on ^p ;");
        fault(1, A + "twig b high 9 thick 9 side east on ^;");
        fault(1, A + "twig b high 9 thick 9 side east on a ^a ;");
        fault(1, A + "twig b high 9 thick 9 side east on a ^on a ;");
    }

    private static void string() {
        of("string: TWIGS told, from the kite to the hand, 1 to 6");
        fault(1, twigs(8) + "string ^;");
        String row = "";
        for (int many = 1; many <= 6; many++) {
            row += " " + (char) ('a' + many - 1);
            ElmKite x = told(twigs(8) + "string" + row + " ;");
            due("string" + row + ": count(2)", x.count(2), many);
            due("string" + row + ": twig(, 5)", x.twig(many - 1, 5), 1);
            due("string" + row + ": twig(, 5)", x.twig(many, 5), 0);
        }
        fault(5, twigs(8) + "string a b c d e f ^g ;");
        fault(5, twigs(8) + "string a b c d e f ^g h ;");
        fault(5, twigs(8) + "string h g f e d c ^b");
        fault(2, twigs(3) + "string a ^d ;");
        fault(2, "string ^a ; " + A);
        fault(2, A + P + "string ^p ;");
        // From the kite to the hand: the last one told is the LAST TWIG.
        due("string a b: the LAST one's side", told(A + B + "string a b ;").chance(2, false, 0), 10);
        due("string b a: the LAST one's side", told(A + B + "string b a ;").chance(2, false, 0), 3);
    }

    private static void stringOnce() {
        of("string: .. each once");
        fault(3, twigs(8) + "string a ^a ;");
        fault(3, twigs(8) + "string a b ^a ;");
        fault(3, twigs(8) + "string a b c d e ^a ;");
        fault(3, twigs(8) + "string a b c d e ^e ;");
        stands(twigs(8) + "string h g a b f e ;");
    }

    private static void kite() {
        of("kite: worth 0 to 999 (0), paper 0 to 99 (9)");
        int[] worth = {0, 1, 998, 999};
        for (int i = 0; i < worth.length; i++) {
            due("kite worth " + worth[i], told("kite worth " + worth[i] + " paper 1 ;").worth(), worth[i]);
        }
        fault(4, "kite worth ^1000 paper 1 ;");
        fault(4, "kite worth ^9999 paper 1 ;");
        int[] paper = {0, 1, 98, 99};
        for (int i = 0; i < paper.length; i++) {
            due("paper " + paper[i], told("kite worth 1 paper " + paper[i] + " ;").count(6), paper[i]);
        }
        fault(4, "kite worth 1 paper ^100 ;");
        fault(4, "kite worth 1 paper ^9999 ;");
        due("not told: worth()", told("dew 1 ;").worth(), 0);
        due("not told: count(6)", told("dew 1 ;").count(6), 9);
        fault(1, "kite ^paper 1 worth 1 ;");
        fault(1, "kite worth 1 ^;");
    }

    private static String things(int many) {
        StringBuilder text = new StringBuilder();
        for (int i = 0; i < many; i++) {
            text.append("thing ").append((char) ('p' + i)).append(" worth ").append(i + 1).append(" stuck 1 frees 2 ; ");
        }
        return text.toString();
    }

    private static void things() {
        of("thing: 4 at most, numbered as told; worth 0 to 999");
        due("three: count(1)", told(things(3)).count(1), 3);
        ElmKite x = told(things(4));
        due("four: count(1)", x.count(1), 4);
        for (int thing = 0; thing < 4; thing++) {
            due("thing(" + thing + ", 0)", x.thing(thing, 0), thing + 1);
        }
        fault(5, things(4) + "^thing t worth 1 stuck 1 frees 2 ;");
        fault(5, things(4) + "dew 3 ; ^thing p");
        int[] worth = {0, 1, 998, 999};
        for (int i = 0; i < worth.length; i++) {
            due("worth " + worth[i], told("thing p worth " + worth[i] + " stuck 0 frees 0 ;").thing(0, 0), worth[i]);
        }
        fault(4, "thing p worth ^1000 stuck 0 frees 0 ;");
    }

    private static void thingChances() {
        of("stuck and frees, each 0 to 10 of ten, 10 together at most");
        for (int stuck = 0; stuck <= 10; stuck++) {
            for (int frees = 0; frees <= 11; frees++) {
                String line = "thing p worth 0 stuck " + stuck + " frees ";
                if (stuck + frees <= 10) {
                    ElmKite x = told(line + frees + " ;");
                    due(line + frees + ": thing(0, 1)", x.thing(0, 1), stuck);
                    due(line + frees + ": thing(0, 2)", x.thing(0, 2), frees);
                } else {
                    fault(4, line + "^" + frees + " ;");
                }
            }
        }
        fault(4, "thing p worth 0 stuck ^11 frees 0 ;");
        fault(4, "thing p worth 0 stuck ^9999 frees 0 ;");
    }

    private static void over() {
        of("over: two THINGS told, not the same, each pair once this way round");
        stands(P + Q + "over p q ;");
        stands(P + Q + "over q p ;");
        stands(P + Q + "over p q ; over q p ;");
        fault(3, P + Q + "over p ^p ;");
        fault(3, P + Q + "over q ^q ;");
        fault(3, P + Q + "over p q ; over p ^q ;");
        fault(3, P + Q + "over p q ; over q p ; over q ^p ;");
        stands(things(4) + "over p q ; over p r ; over p s ; over q r ;");
        fault(2, P + "over p ^q ; " + Q);
        fault(2, "over ^p q ; " + P + Q);
        fault(2, A + P + "over p ^a ;");
        fault(2, A + P + "over ^a p ;");
        fault(1, P + Q + "over p ^;");
        fault(1, P + Q + "over ^;");
        fault(1, P + Q + "over p q ^p ;");
        of("over: .. (the first one came ahead of the second)");
        due("over p q: came(0, 1)", told(P + Q + "over p q ;").came(0, 1), 0);
        due("over q p: came(0, 1)", told(P + Q + "over q p ;").came(0, 1), 1);
    }

    private static void wind() {
        of("of ten an hour it turns on to the next side, and back to the one ahead, each 0 to 10, 10 together at most");
        for (int on = 0; on <= 10; on++) {
            for (int back = 0; back <= 11; back++) {
                String line = "wind east " + on + " ";
                if (on + back <= 10) {
                    ElmKite x = told(line + back + " ;");
                    due(line + back + ": waits(2, 1)", x.waits(2, 1), 100000 * on);
                    due(line + back + ": waits(0, 1)", x.waits(0, 1), 100000 * back);
                    due(line + back + ": waits(3, 1)", x.waits(3, 1), 0);
                } else {
                    fault(4, line + "^" + back + " ;");
                }
            }
        }
        fault(4, "wind east ^11 0 ;");
        fault(1, "wind east 1 ^;");
        fault(1, "wind ^1 1 ;");
        of("wind: .. (north 0 0)");
        due("count(4)", told("").count(4), 0);
        due("waits(1, 48)", told("").waits(1, 48), 0);
        due("waits(3, 48)", told("").waits(3, 48), 0);
    }

    private static void liftAndDew() {
        of("lift 0 to 10, dew 0 to 9 (0)");
        String one = A + "string a ; kite worth 100 paper 9 ; run 0 ; wind east 0 0 ; ";
        int[] lift = {0, 1, 9, 10};
        for (int i = 0; i < lift.length; i++) {
            due("lift " + lift[i], told(one + "lift " + lift[i] + " ;").next(1, 0), 10000 * lift[i]);
        }
        fault(4, "lift ^11 ;");
        due("not told: lift 0", told(one).next(1, 0), 0);
        due("not told: lifts()", told(one).lifts(), false);
        int[] dew = {0, 1, 8, 9};
        for (int i = 0; i < dew.length; i++) {
            ElmKite x = told(one + "dew " + dew[i] + " ;");
            for (int hour = 13; hour <= 20; hour++) {
                x.hour(0);
            }
            due("dew " + dew[i], x.count(6), 9 - dew[i]);
        }
        fault(4, "dew ^10 ;");
        due("not told: dew 0", told(one).lasts(), -1);
    }

    private static void ladderAndPole() {
        of("ladder, pole 0 to 60 (0)");
        String thin = "twig a high 60 thick 1 side east ; twig b high 59 thick 1 side east ; twig c high 1 thick 1 side east ; ";
        due("ladder 60", told(thin + "ladder 60 pole 0 ;").minutes(0), 5);
        due("ladder 59", told(thin + "ladder 59 pole 0 ;").minutes(0), -1);
        due("ladder 59", told(thin + "ladder 59 pole 0 ;").minutes(1), 5);
        due("pole 60", told(thin + "ladder 0 pole 60 ;").minutes(0), 2);
        due("pole 59", told(thin + "ladder 0 pole 59 ;").minutes(0), -1);
        due("pole 59", told(thin + "ladder 0 pole 59 ;").minutes(1), 2);
        due("60 and 60", told(thin + "ladder 60 pole 60 ;").minutes(0), 2);
        due("0 and 0", told(thin + "ladder 0 pole 0 ;").minutes(2), -1);
        due("1 and 0", told(thin + "ladder 1 pole 0 ;").minutes(2), 5);
        due("0 and 1", told(thin + "ladder 0 pole 1 ;").minutes(2), 2);
        due("not told: 0 and 0", told(thin).minutes(2), -1);
        fault(4, "ladder ^61 pole 0 ;");
        fault(4, "ladder 0 pole ^61 ;");
        fault(1, "ladder 1 ^;");
        fault(1, "^pole 1 ladder 1 ;");
    }

    private static void weighs() {
        of("weighs 1 to 99 (10)");
        fault(4, "weighs ^0 ;");
        String two = "twig a high 9 thick 20 side east ; twig b high 9 thick 10 side east ; twig c high 9 thick 9 side east ; ";
        due("weighs 1", told(two + "weighs 1 ;").far(0), 19);
        due("weighs 2", told(two + "weighs 2 ;").far(0), 18);
        due("weighs 20", told(two + "weighs 20 ;").far(0), 0);
        due("weighs 21", told(two + "weighs 21 ;").far(0), -1);
        due("weighs 98", told(two + "weighs 98 ;").far(0), -1);
        due("weighs 99", told(two + "weighs 99 ;").far(0), -1);
        fault(4, "weighs ^100 ;");
        due("not told: far(0)", told(two).far(0), 10);
        due("not told: far(1)", told(two).far(1), 0);
        due("not told: far(2)", told(two).far(2), -1);
    }

    private static void cord() {
        of("cord 1 to 15 (5)");
        fault(4, "cord ^0 ;");
        int[] cords = {1, 2, 14, 15};
        for (int i = 0; i < cords.length; i++) {
            ElmKite x = told("elm 0 15 ; cord " + cords[i] + " ;");
            due("cord " + cords[i] + " away", x.safe(0, 15 - cords[i]), 14);
            if (cords[i] < 15) {
                due("cord " + cords[i] + " and one away", x.safe(0, 14 - cords[i]), 15);
            }
        }
        fault(4, "cord ^16 ;");
        due("not told: 5 away", told("elm 0 15 ;").safe(0, 10), 14);
        due("not told: 6 away", told("elm 0 15 ;").safe(0, 9), 15);
    }

    private static String elms(int many) {
        StringBuilder text = new StringBuilder();
        for (int i = 0; i < many; i++) {
            text.append("elm ").append(i).append(" 3 ; ");
        }
        return text.toString();
    }

    private static void elms() {
        of("elm: 8 at most, two numbers 0 to 15, each place once");
        due("none: count(7)", told("").count(7), 0);
        due("seven: count(7)", told(elms(7)).count(7), 7);
        due("eight: count(7)", told(elms(8)).count(7), 8);
        fault(5, elms(8) + "^elm 9 9 ;");
        fault(5, elms(8) + "^elm 3 3 ;");
        int[] edges = {0, 1, 14, 15};
        for (int i = 0; i < edges.length; i++) {
            due("elm " + edges[i] + " 3", told("elm " + edges[i] + " 3 ;").safe(edges[i], 3), 0);
            due("elm 3 " + edges[i], told("elm 3 " + edges[i] + " ;").safe(3, edges[i]), 0);
        }
        fault(4, "elm ^16 0 ;");
        fault(4, "elm 0 ^16 ;");
        fault(3, "elm 0 0 ; elm 0 ^0 ;");
        fault(3, "elm 15 15 ; elm 15 ^15 ;");
        fault(3, "elm 3 4 ; elm 0 0 ; elm 3 ^4 ;");
        stands("elm 3 4 ; elm 4 3 ; elm 3 3 ; elm 4 4 ;");
        fault(1, "elm 3 ^;");
    }

    private static void once() {
        of("All but twig, thing, over, elm once each");
        String[] lines = {"string a ;", "kite worth 0 paper 9 ;", "wind north 0 0 ;", "lift 0 ;", "dew 0 ;",
            "ladder 0 pole 0 ;", "weighs 10 ;", "cord 5 ;", "run 0 ;", "tear 0 ;"};
        for (int i = 0; i < lines.length; i++) {
            stands(A + B + lines[i]);
            fault(3, A + B + lines[i] + " ^" + lines[i]);
            fault(3, lines[0].equals(lines[i]) ? A + lines[i] + B + "^string b ;" : lines[i] + " elm 1 1 ; " + A + "^" + lines[i]);
        }
        stands(A + B + P + Q + "over p q ; elm 1 1 ; " + C + "thing r worth 1 stuck 0 frees 0 ; over p r ; elm 1 2 ;");
        stands(A + String.join("", lines));
    }

    // ---- Terms 1, the lines of an AFTERNOON

    private static void afternoonLines() {
        of("AFTERNOON: .. 24 at most");
        int[] many = {0, 1, 23, 24};
        for (int i = 0; i < many.length; i++) {
            ElmKite x = told(UP);
            due(many[i] + " lines: afternoon()", Feeding.afternoon(x, "slack ; ".repeat(many[i])), 0);
            due(many[i] + " lines: count(8)", x.count(8), many[i]);
        }
        dayFault(5, "slack ; ".repeat(24) + "^slack ;");
        dayFault(5, "slack ; ".repeat(24) + "^pull");
        dayFault(5, "slack ; ".repeat(24) + "^lifts");
        dayFault(5, "slack ; ".repeat(24) + "^hurl");
        dayFault(5, "slack ; ".repeat(24) + "^climb");
        dayFault(5, "slack ; ".repeat(24) + "^poke");
        dayFault(5, "slack ; ".repeat(24) + "^hour");
        dayFault(1, "slack ; ".repeat(24) + "^;");
        dayFault(1, "slack ; ".repeat(24) + "^kite");
    }

    private static void afternoonForms() {
        of("pull SIDE HARD PULLED ;   slack ;   lifts ;   hurl NAME HURLED ;   climb NAME ;   poke NAME ;   hour SIDE ;");
        String[] hards = {"soft", "hard"};
        String[] pulled = {"runs", "bites", "tears"};
        String[] hurled = {"down", "sticks", "frees"};
        for (int side = 0; side < 4; side++) {
            for (int hard = 0; hard < 2; hard++) {
                for (int end = 0; end < 3; end++) {
                    dayStands("pull " + SIDES[side] + " " + hards[hard] + " " + pulled[end] + ";");
                }
            }
            dayStands("hour " + SIDES[side] + ";");
        }
        for (int end = 0; end < 3; end++) {
            dayStands("hurl q " + hurled[end] + ";");
            dayFault(1, "hurl q ^" + pulled[end] + ";");
            dayFault(1, "pull west soft ^" + hurled[end] + ";");
        }
        dayStands("slack;lifts;climb a;poke c;");
        dayFault(1, "pull ^soft runs ;");
        dayFault(1, "pull west ^runs ;");
        dayFault(1, "pull west soft ^;");
        dayFault(1, "pull west soft runs^");
        dayFault(1, "slack ^3 ;");
        dayFault(1, "lifts ^a ;");
        dayFault(1, "climb ^;");
        dayFault(1, "hour ^;");
        dayFault(1, "hour ^soft ;");
        dayFault(2, "hurl ^a down ;");
        dayFault(2, "climb ^p ;");
        dayFault(2, "poke ^q ;");
        dayFault(2, "hurl ^r down ;");
        dayFault(2, "climb ^d ;");
        dayFault(1, "^over p q ;");
        dayFault(1, "^dew 3 ;");
    }

    // ---- Terms 1, NAMES

    private static void names() {
        of("A NAME is another WORD than twig, high, thick ..");
        for (int i = 0; i < RESERVED.length; i++) {
            fault(1, "twig ^" + RESERVED[i] + " high 9 thick 9 side east ;");
            fault(1, "thing ^" + RESERVED[i] + " worth 0 stuck 0 frees 0 ;");
            fault(1, A + "string ^" + RESERVED[i] + " ;");
            dayFault(1, "climb ^" + RESERVED[i] + " ;");
        }
        String[] names = {"tight", "size", "away", "force", "twigs", "hig", "strings", "up", "norths", "elms", "nots", "downs"};
        for (int i = 0; i < names.length; i++) {
            stands("twig " + names[i] + " high 9 thick 9 side east ; string " + names[i] + " ; run tight + size + away + force ;");
            stands("thing " + names[i] + " worth 0 stuck 0 frees 0 ;");
        }
    }

    private static void namesAlike() {
        of("no two (TWIGS, THINGS) are alike");
        fault(3, A + "twig ^a");
        fault(3, A + B + C + "twig ^a high 9 thick 9 side east ;");
        fault(3, A + B + C + "twig ^c high 9 thick 9 side east ;");
        fault(3, P + "thing ^p");
        fault(3, P + Q + "thing ^p worth 0 stuck 0 frees 0 ;");
        fault(3, A + "thing ^a worth 0 stuck 0 frees 0 ;");
        fault(3, P + "twig ^p high 9 thick 9 side east ;");
        stands(A + "thing b worth 0 stuck 0 frees 0 ;");
    }

    // ---- Terms 1, E

    private static void law(String e, int runs) {
        ElmKite x = told("twig a high 9 thick 7 side east ; string a ; run " + e + " ; tear 0 ;");
        due("run " + e, x.chance(1, false, 0), runs);
        x = told("twig a high 9 thick 7 side east ; string a ; run 0 ; tear " + e + " ;");
        due("tear " + e, x.chance(1, false, 1), runs);
    }

    private static void lawsFromTheLeft() {
        of("E: TEST { and TEST or or TEST }, from the left");
        law("0 and 0 or 1", 1);
        law("1 or 1 and 0", 0);
        law("1 or 0 and 0", 0);
        law("0 and 0 or 0 or 1 and 1", 1);
        law("1 and 1", 1);
        law("1 and 0", 0);
        law("0 and 1", 0);
        law("0 or 0", 0);
        law("0 or 1", 1);
        fault(1, "run 1 and ^;");
        fault(1, "run 1 or ^or 1 ;");
        fault(1, "run ^and 1 ;");
        of("SUM: PRODUCT { + or - PRODUCT }; PRODUCT: PART { * PART }");
        law("9 - 3 - 2", 4);
        law("9 - 3 + 2", 8);
        law("9 - 2 * 3", 3);
        law("2 * 2 + 1", 5);
        law("2 * 2 * 2", 8);
        law("1 + 2 * 2 + 1", 6);
        fault(1, "run 1 + ^;");
        fault(1, "run 1 * ^* 1 ;");
        fault(1, "run ^- 1 ;");
        fault(1, "run 1 ^1 ;");
    }

    private static void lawsTests() {
        of("TEST: SUM, or SUM < SUM, or SUM = SUM");
        law("3 < 4", 1);
        law("4 < 4", 0);
        law("5 < 4", 0);
        law("3 = 4", 0);
        law("4 = 4", 1);
        law("5 = 4", 0);
        law("1 + 3 < 2 + 3", 1);
        law("2 + 3 = 4 + 1", 1);
        law("3 < 4 and 4 < 3", 0);
        fault(1, "run 1 < 2 ^< 3 ;");
        fault(1, "run 1 < 2 ^= 3 ;");
        fault(1, "run 1 = 2 ^= 3 ;");
        fault(1, "run 1 = 2 ^< 3 ;");
        fault(1, "run 1 < ^< 2 ;");
        fault(1, "run ^< 2 ;");
        law("(1 < 2) < 3", 1);
    }

    private static void lawsDepth() {
        of("no PART lies within 5 of not and ( )");
        law("(((3)))", 3);
        law("((((3))))", 3);
        fault(5, "run (((((^3))))) ;");
        fault(5, "run (((((^(3)))))) ;");
        law("not not not 3", 0);
        law("not not not not 3", 1);
        fault(5, "run not not not not not ^3 ;");
        fault(5, "run not not not not not ^not 3 ;");
        law("not (not (3))", 1);
        fault(5, "run not (not (not ^3)) ;");
        fault(5, "run (not (not (^3))) ;");
        fault(5, "run (((((^tight))))) ;");
        fault(5, "tear (((((^size))))) ;");
        law("(((1 + (2)))) + ((((3)))) * not not not not 1", 6);
        law("((((3 + 1 - 1 < 9 and 5))))", 1);
        fault(5, "run ((((1 + (^2))))) ;");
        fault(5, "run ((((1 + 1 * not ^2)))) ;");
        fault(1, "run (((((^)");
        fault(1, "run (((((^;");
        fault(1, "run (((((^+ 1");
        fault(1, "run (((((^");
        fault(1, "run ((((3)))^;");
        fault(1, "run ((((3))))^) ;");
    }

    private static void lawsFacts() {
        of("Facts: tight (of the last TWIG)");
        ElmKite x = told(A + B + "string a b ; run tight ; tear 0 ;");
        for (int tight = 0; tight < 9; tight++) {
            due("tight " + tight, x.chance(0, false, 0), tight);
            x.pull(0, false, 1);
        }
        due("tight 9", x.chance(0, false, 0), 9);
        x.pull(0, false, 0);
        due("the next one is loose", x.chance(0, false, 0), 0);
        of("Facts: .. size (how thick it is)");
        x = told("twig a high 9 thick 1 side east ; twig b high 9 thick 9 side east ; string a b ; run size ;");
        due("9 thick", x.chance(0, false, 0), 9);
        x.pull(0, false, 0);
        due("1 thick", x.chance(0, false, 0), 1);
        due("20 thick", told("twig a high 9 thick 20 side east ; string a ; run size - 11 ;").chance(0, false, 0), 9);
        of("Facts: .. away (how many sides the pull's is from the TWIG's: 0 to 2)");
        int[] away = {0, 1, 2, 1};
        for (int of = 0; of < 4; of++) {
            x = told("twig a high 9 thick 9 side " + SIDES[of] + " ; string a ; run away ;");
            for (int by = 0; by < 4; by++) {
                due("from " + SIDES[by] + " at " + SIDES[of], x.chance(by, false, 0), away[(by - of + 4) % 4]);
            }
        }
        of("Facts: .. force (0 soft, 1 hard)");
        x = told(A + "string a ; run force ; tear 1 + force ;");
        due("soft", x.chance(0, false, 0), 0);
        due("hard", x.chance(0, true, 0), 1);
        due("soft", x.chance(0, false, 1), 1);
        due("hard", x.chance(0, true, 1), 2);
        fault(1, "run ^high ;");
        fault(1, A + "run ^a ;");
        fault(1, "run ^tigh ;");
        fault(1, "run ^sizes ;");
    }

    /** Each TWIG, each tightness, each force has its own. */
    private static void lawsOfEachTwig() {
        of("Facts: tight (of the last TWIG), size (how thick it is)");
        StringBuilder eight = new StringBuilder();
        for (int i = 0; i < 8; i++) {
            eight.append("twig ").append((char) ('a' + i)).append(" high 9 thick ").append(i + 1).append(" side west ; ");
        }
        for (int twig = 0; twig < 8; twig++) {
            String law = "(tight < 9) * size + (tight = 9) * (9 - size) + force * (away = 1)";
            String string = "string " + (char) ('a' + twig) + " ; ";
            ElmKite x = told(eight + string + "tear 0 ; run " + law + " ; ");
            ElmKite y = told(eight + string + "run 0 ; tear " + law + " ; ");
            for (int tight = 0; tight <= 9; tight++) {
                int due = tight < 9 ? twig + 1 : 8 - twig;
                for (int side = 0; side < 4; side++) {
                    int hard = due + (side % 2 == 0 ? 1 : 0);
                    due("run, TWIG " + twig + ", tight " + tight, x.chance(side, false, 0), due);
                    due("run, TWIG " + twig + ", tight " + tight + ", hard", x.chance(side, true, 0), hard);
                    due("tear, TWIG " + twig + ", tight " + tight, y.chance(side, false, 1), due);
                    due("tear, TWIG " + twig + ", tight " + tight + ", hard", y.chance(side, true, 1), hard);
                }
                x.pull(3, false, 1);
                y.pull(3, false, 1);
            }
        }
    }

    private static void lawsTruth() {
        of("Of not, and, or, < and = comes 1 or 0; what is not 0 is so");
        law("not 0", 1);
        law("not 1", 0);
        law("not 2", 0);
        law("not (0 - 1)", 0);
        law("5 and 7", 1);
        law("(0 - 1) and 1", 1);
        law("1 and (0 - 1)", 1);
        law("0 or 7", 1);
        law("(0 - 1) or 0", 1);
        law("2 and 4", 1);
        law("3 + (2 < 3)", 4);
        law("3 + (2 = 3)", 3);
    }

    private static void lawsWrap() {
        of("ints wrap");
        // 32768 * 65535 is the greatest int less 32767.
        String greatest = "8192 * 4 * (8192 * 8 - 1) + 8192 * 4 - 1";
        law("0 < " + greatest, 1);
        law("(" + greatest + ") - (" + greatest + ") + 3", 3);
        law("0 < (" + greatest + ") + 1", 0);
        law("(" + greatest + ") + 1 + (" + greatest + ") + 1", 0);
        law("(" + greatest + ") * 2 + 2", 0);
        law("(" + greatest + ") * 2 + 3", 1);
        law("0 < 0 - (" + greatest + ") - 1", 0);
        law("0 < 0 - (" + greatest + ") - 2", 1);
        law("8192 * 8 * 8192 * 8 + 7", 7);
    }

    private static void withoutRun() {
        of("Without run: 10 - tight if away is 0, 3 - tight if it is 1, else 0");
        ElmKite x = told(A + "string a ; tear 0 ;");
        for (int tight = 0; tight <= 9; tight++) {
            due("away 0, tight " + tight, x.chance(1, false, 0), 10 - tight);
            due("away 0, tight " + tight + ", hard", x.chance(1, true, 0), 10 - tight);
            due("away 1, tight " + tight, x.chance(0, false, 0), Math.max(0, 3 - tight));
            due("away 1, tight " + tight + ", by the other side", x.chance(2, false, 0), Math.max(0, 3 - tight));
            due("away 2, tight " + tight, x.chance(3, false, 0), 0);
            x.pull(3, false, 1);
        }
    }

    private static void withoutTear() {
        of("without tear: tight + 2 * force");
        ElmKite x = told(A + "string a ; run 0 ;");
        for (int tight = 0; tight <= 9; tight++) {
            due("soft, tight " + tight, x.chance(1, false, 1), tight);
            due("hard, tight " + tight, x.chance(3, true, 1), Math.min(10, tight + 2));
            due("it bites", x.pull(1, false, 1), 1);
        }
    }

    // ---- Terms 1, FAULTS

    private static void faultPlaces() {
        of("FAULTS, kind + 16 * the place (from 0) of a token, the end being one at the text's length");
        fault(1, "^;");
        fault(1, " ^;");
        fault(4, "dew ^10 ;");
        CHECKS.treeFaultAt(1, 3, "dew");
        CHECKS.treeFaultAt(1, 4, "dew ");
        CHECKS.treeFaultAt(1, 5, "dew 3");
        CHECKS.treeFaultAt(1, 7, "dew 3\n\n");
        CHECKS.treeFaultAt(1, 1000, "dew 3" + " ".repeat(995));
        CHECKS.treeFaultAt(1, 999, "dew 3" + " ".repeat(994));
        CHECKS.treeFaultAt(1, 999, " ".repeat(999) + "%");
        fault(1, "twig^");
        fault(1, A + "string a^");
        fault(1, "run^");
        fault(1, "run 1^");
        fault(1, "run (1^");
        dayFault(1, "hour^");
        dayFault(1, "hour east^");
        dayFault(1, "slack ; hour east  ^");
    }

    private static void faultFirst() {
        of("of the first token from the left that is wrong");
        fault(4, "dew ^10 lift 11 ;");
        fault(4, "lift 1 ; dew ^10 ; %");
        fault(1, "^% dew 10 ;");
        fault(4, "twig a high ^61 thick 21 side up on b ;");
        fault(1, "dew 3 ; ^lifts 11 ;");
        fault(4, "elm ^16 16 ;");
        fault(2, "string ^x y ;");
        fault(3, A + "twig ^a high 61 ;");
        fault(4, "wind east ^11 11 ;");
        dayFault(2, "climb ^x ; climb y ;");
        dayFault(1, "slack ^climb x ;");
    }

    private static void faultLeast() {
        of("of the first token .. that is wrong the least");
        // A seventh NAME behind string that is the same one again, or no TWIG's, or none at all.
        fault(3, twigs(8) + "string a b c d e f ^a ;");
        fault(2, twigs(8) + "string a b c d e f ^i ;");
        fault(1, twigs(8) + "string a b c d e f ^3 ;");
        fault(1, twigs(8) + "string a b c d e f ^east ;");
        // A PART within 5 others that can't stand there at all.
        fault(1, "run (((((^name))))) ;");
        fault(1, "run (((((^<");
        fault(1, "run not not not not not ^;");
        fault(1, "run (((((^12345");
        // A 25th line that is none.
        dayFault(1, "slack ; ".repeat(24) + "^twig");
        dayFault(1, "slack ; ".repeat(24) + "^x");
        dayFault(1, "slack ; ".repeat(24) + "^3");
    }

    private static void faultKinds() {
        of("2 a NAME of no TWIG (behind on, string, climb, poke), of no THING (behind over, hurl) told");
        fault(2, A + "twig b high 9 thick 9 side east on ^c ;");
        fault(2, A + "string a ^b ;");
        fault(2, P + "over p ^x ;");
        fault(2, P + "over ^x p ;");
        dayFault(2, "climb ^x ;");
        dayFault(2, "poke ^x ;");
        dayFault(2, "hurl ^x down ;");
        of("3 .. any other line told a second time (at its word)");
        fault(3, "lift 1 ; ^lift 99 ;");
        fault(3, "run 1 ; ^run");
        of("4 a NUMBER that is not as told");
        fault(4, "cord ^0 ;");
        fault(1, "cord ^;");
        of("5 one too many: the words twig of a ninth, thing of a fifth, elm of a ninth");
        fault(5, twigs(8) + "^twig");
        fault(1, twigs(7) + "twig^");
        fault(5, things(4) + "^thing");
        fault(1, things(3) + "thing^");
        fault(5, elms(8) + "^elm");
        fault(1, elms(7) + "elm^");
    }

    // ---- Terms 1, what stays

    /** A kite that has seen all that can be seen. */
    private static ElmKite used() {
        ElmKite x = told(UP + "lift 3 ; wind east 1 1 ;");
        Feeding.afternoon(x, "slack ; slack ;");
        for (int mark = 0; mark < 4; mark++) {
            x.mark(mark, false);
        }
        x.tell(1, true);
        x.hour(3);
        x.pull(0, true, 1);
        x.hurl(0, 1);
        return x;
    }

    private static void treeFromThenOn() {
        of("a TREE is the TREE from then on: hour 12, the wind as told, the kite up .., all TWIGS loose (tight 0), "
            + "all THINGS in the hand, paper as told, no AFTERNOON, nothing TOLD, nothing can be undone, no MARK is there");
        ElmKite x = used();
        due("tight ahead", x.twig(2, 4), 2);
        due("tree()", Feeding.tree(x, UP + "wind south 0 0 ;"), 0);
        int[] all = {3, 2, 3, 12, 2, 0, 6, 0, 0, 0, 0, 0, 2};
        for (int what = 0; what < all.length; what++) {
            due("count(" + what + ")", x.count(what), all[what]);
        }
        for (int twig = 0; twig < 3; twig++) {
            due("twig(" + twig + ", 4)", x.twig(twig, 4), 0);
            due("twig(" + twig + ", 5)", x.twig(twig, 5), 1);
        }
        for (int mark = 0; mark < 4; mark++) {
            due("mark(" + mark + ", true)", x.mark(mark, true), false);
        }
        due("undo()", x.undo(), false);
        due("likely(1)", x.likely(1), 333333);
        due("lifts(): nothing told ahead stays", x.lifts(), false);
        x = used();
        due("tree()", Feeding.tree(x, ""), 0);
        int[] none = {0, 0, 0, 12, 0, 1, 9, 0, 0, 0, 0, 0, 0};
        for (int what = 0; what < none.length; what++) {
            due("of nothing: count(" + what + ")", x.count(what), none[what]);
        }
        due("of nothing: judged(0)", x.judged(0), -1);
        due("of nothing: came(-1, 0)", x.came(-1, 0), 1);
        due("of nothing: places(-1)", x.places(-1), 256);
    }

    /** Nothing of the ones ahead is left, however many there were. */
    private static void treeAfterTree() {
        of("Without a FAULT a TREE is the TREE from then on");
        String all = twigs(8).replace("thick 9", "thick 20") + things(4) + "over p q ; over q r ; string a b c d e f ; kite worth 50 paper 30 ; wind west 3 3 ; "
            + "lift 4 ; dew 5 ; ladder 60 pole 60 ; weighs 2 ; cord 9 ; run 9 ; tear 9 ; " + elms(7);
        String one = A + "string a ; kite worth 1 paper 7 ; ";
        ElmKite x = told(all);
        due("of all: chance(3, false, 0)", x.chance(3, false, 0), 9);
        for (int again = 0; again < 4; again++) {
            due("of one", Feeding.tree(x, one), 0);
            int[] counts = {1, 0, 1, 12, 0, 0, 7, 0, 0, 0, 0, 0, 0};
            for (int what = 0; what < counts.length; what++) {
                due("of one: count(" + what + ")", x.count(what), counts[what]);
            }
            int[] runs = {3, 10, 3, 0};
            for (int side = 0; side < 4; side++) {
                due("of one: run is not told", x.chance(side, false, 0), runs[side]);
                due("of one: tear is not told", x.chance(side, true, 1), 2);
            }
            for (int twig = 1; twig < 8; twig++) {
                due("of one: twig(" + twig + ", 0)", x.twig(twig, 0), -1);
                due("of one: far(" + twig + ")", x.far(twig), -1);
                due("of one: minutes(" + twig + ")", x.minutes(twig), -1);
                due("of one: climb(" + twig + ", true)", x.climb(twig, true), false);
            }
            due("of one: thing(0, 0)", x.thing(0, 0), -1);
            due("of one: fits()", x.fits(), 1);
            due("of one: lift 0, waits", x.waits(1, 48), 0);
            due("of one: dew 0", x.lasts(), -1);
            due("of one: ladder 0, pole 0, weighs 10", x.minutes(0), -1);
            due("of one: weighs 10", x.far(0), -1);
            due("of one: cord 5, no elm", x.places(-1), 256);
            due("of one: came(-1, 0)", x.came(-1, 0), 1);
            x.hour(1);
            due("of one: lift 0", x.lifts(), false);
            due("of two THINGS", Feeding.tree(x, things(2) + "elm 0 0 ; " + A + B + "string b ; wind south 0 0 ; "), 0);
            due("of two THINGS: worth()", x.worth(), 3);
            due("of two THINGS: came(-1, 0)", x.came(-1, 0), 2);
            due("of two THINGS: came(1, 0)", x.came(1, 0), 0);
            due("of two THINGS: came(0, 1)", x.came(0, 1), 1);
            due("of two THINGS: cord 5", x.places(0), 255);
            due("of two THINGS: count(7)", x.count(7), 1);
            due("of two THINGS: count(6)", x.count(6), 9);
            due("of two THINGS: lift 0", x.lifts(), false);
            due("of all", Feeding.tree(x, all), 0);
            due("of all: came(3, 1)", x.came(3, 1), 3);
        }
    }

    private static void treeUpOrDown() {
        of("the kite up if there is a string (else down)");
        due("string of one", told(A + "string a ;").count(5), 0);
        due("no string", told(A).count(5), 1);
        ElmKite x = told(A + "string a ;");
        x.pull(0, true, 2);
        due("torn", x.count(5), 2);
        due("tree()", Feeding.tree(x, A), 0);
        due("torn ahead, no string", x.count(5), 1);
        due("tree()", Feeding.tree(x, A + "string a ;"), 0);
        due("down ahead, a string", x.count(5), 0);
        x.pull(1, false, 0);
        due("ran off", x.count(5), 1);
        due("tree()", Feeding.tree(x, A + "string a ;"), 0);
        due("ran off ahead, a string", x.count(5), 0);
    }

    private static void faultAllStays() {
        of("tree(): 0, or its FAULT (all stays then)");
        String[] wrong = {"twig z high 61", "thing z worth 3 stuck 0 frees 0 ; elm 3 3 ; kite worth 7 paper 7 ; dew 10", "%",
            A + "string a ; run 1 ; lift 11", twigs(8) + elms(8) + "cord 9 ; weighs 1 ; wind west 0 11"};
        for (int i = 0; i < wrong.length; i++) {
            ElmKite x = used();
            ElmKite y = used();
            due("there is a FAULT in " + wrong[i], Feeding.tree(x, wrong[i]) > 0, true);
            for (int what = 0; what <= 12; what++) {
                due("count(" + what + ")", x.count(what), y.count(what));
            }
            for (int twig = 0; twig < 4; twig++) {
                for (int what = 0; what < 6; what++) {
                    due("twig(" + twig + ", " + what + ")", x.twig(twig, what), y.twig(twig, what));
                }
                due("far(" + twig + ")", x.far(twig), y.far(twig));
            }
            due("chance(0, false, 0)", x.chance(0, false, 0), y.chance(0, false, 0));
            due("waits(2, 3)", x.waits(2, 3), y.waits(2, 3));
            due("places(-1)", x.places(-1), y.places(-1));
            due("next(3, 0)", x.next(3, 0), y.next(3, 0));
            due("likely(1)", x.likely(1), y.likely(1));
            due("judged(0)", x.judged(0), 0);
            due("undo()", x.undo(), true);
            due("mark(3, true)", x.mark(3, true), true);
            due("gone back to: hour", x.count(3), 12);
            due("tree()", Feeding.tree(x, UP), 0);
        }
    }

    private static void afternoonFromThenOn() {
        of("An AFTERNOON is the AFTERNOON");
        ElmKite x = used();
        int[] ahead = new int[13];
        for (int what = 0; what < 13; what++) {
            ahead[what] = x.count(what);
        }
        due("afternoon()", Feeding.afternoon(x, "lifts ; slack ; lifts ;"), 0);
        for (int what = 0; what < 13; what++) {
            due("count(" + what + ")", x.count(what), what == 8 ? 3 : ahead[what]);
        }
        due("judged(0)", x.judged(0), 0);
        due("with a FAULT all stays", Feeding.afternoon(x, "slack ; slack ; slack ; slack ; climb z ;"), 2 + 16 * 38);
        due("count(8)", x.count(8), 3);
        due("a FAULT in the 25th line", Feeding.afternoon(x, "slack;".repeat(25)), 5 + 16 * 144);
        due("count(8)", x.count(8), 3);
        due("undo()", x.undo(), true);
        due("it isn't undone", x.count(8), 3);
        due("mark(0, true)", x.mark(0, true), true);
        due("it isn't on a MARK", x.count(8), 3);
        due("none", x.afternoon(), 0);
        due("count(8)", x.count(8), 0);
        due("judged(0)", x.judged(0), -1);
    }

    private static void atFirst() {
        of("At first: nothing, the kite down");
        ElmKite x = new ElmKite();
        int[] first = {0, 0, 0, 12, 0, 1, 9, 0, 0, 0, 0, 0, 0};
        for (int what = 0; what < first.length; what++) {
            due("count(" + what + ")", x.count(what), first[what]);
        }
        due("twig(0, 0)", x.twig(0, 0), -1);
        due("thing(0, 0)", x.thing(0, 0), -1);
        due("afternoon() of climb", Feeding.afternoon(x, "climb a ;"), 2 + 16 * 6);
        due("afternoon() of slack", Feeding.afternoon(x, "slack ;"), 0);
        due("judged(0)", x.judged(0), 0);
        due("judged(1)", x.judged(1), 0);
    }
}
