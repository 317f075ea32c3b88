/** Terms 3: each sentence that names a bound, at it, one below it and one above it. */
public final class BoundsOfAnswersTest {
    private static final int RUNS = 0;
    private static final int BITES = 1;
    private static final int TEARS = 2;
    private static final int STICKS = 1;
    private static final int FREES = 2;
    private static final int MILLION = 1000000;
    private static final String[] SIDES = {"north", "east", "south", "west"};
    private static final String ONE = "twig a high 9 thick 9 side east ; string a ; kite worth 100 paper 1 ; ";

    private static final Checks CHECKS = new Checks();

    private BoundsOfAnswersTest() {
    }

    public static void main(String[] args) {
        nextTries();
        nextStops();
        nextThousandths();
        nextCutAtEachTry();
        nextPulls();
        nextPullsHard();
        nextPullsTear();
        nextSlack();
        nextLift();
        nextHurl();
        nextOfEqualOnes();
        toldTwelve();
        toldLooseAndSoft();
        fits();
        likelyFirst();
        likelyCut();
        tells();
        tellsOfEqualOnes();
        cutSteps();
        cutOneBehindTheOther();
        cutStringLost();
        waitsNowOrLater();
        waitsComesRound();
        waitsCutAtEachHour();
        waitsNoLaterThanPaper();
        lasts();
        lastsFromEachHour();
        far();
        minutes();
        minutesTheLeast();
        mapEdges();
        mapWhereTheWindGoes();
        cells();
        nearest();
        came();
        cameOfThisTree();
        cameByWhatIsOver();
        draws();
        drawsOfPulls();
        drawsOfHardPulls();
        drawsBehindSlack();
        drawsOfThrows();
        afternoonsAsManyAsTold();
        afternoonsNoneMore();
        afternoonsAllAsAhead();
        marksHold();
        marksFour();
        marksNothingUndone();
        CHECKS.end("BoundsOfAnswersTest");
    }

    private static void of(String sentence) {
        CHECKS.of(sentence);
    }

    private static void due(String call, long got, long want) {
        CHECKS.due(call, got, want);
    }

    private static void due(String call, boolean got, boolean want) {
        CHECKS.due(call, got, want);
    }

    private static ElmKite told(String text) {
        return Feeding.told(text);
    }

    private static void next(ElmKite x, int tries, int thousandths, int first) {
        due("next(" + tries + ", 0)", x.next(tries, 0), thousandths);
        due("next(" + tries + ", 1)", x.next(tries, 1), first);
    }

    private static String twigs(int many, String string) {
        StringBuilder text = new StringBuilder();
        for (int i = 0; i < many; i++) {
            text.append("twig ").append((char) ('a' + i)).append(" high ").append(i + 1).append(" thick ").append(i + 1)
                .append(" side east ; ");
        }
        return text + "string " + string + " ; kite worth 50 paper 1 ; ";
    }

    // ---- NEXT

    private static void nextTries() {
        of("NEXT with so many tries (0 to 6) yet");
        String always = "run 10 ; ";
        String[] strings = {"a", "a b", "a b c", "a b c d", "a b c d e", "a b c d e f"};
        for (int over = 1; over <= 6; over++) {
            ElmKite x = told(twigs(6, strings[over - 1]) + always);
            next(x, -1, -1, -1);
            for (int tries = 0; tries <= 6; tries++) {
                next(x, tries, tries < over ? 0 : 50000, tries < over ? 0 : 1);
            }
            next(x, 7, -1, -1);
        }
    }

    private static void nextStops() {
        of("to stop");
        String text = ONE + "run 5 ; tear 5 ; thing p worth 7 stuck 1 frees 0 ; ";
        ElmKite x = told(text);
        next(x, 0, 7000, 0);
        x.pull(0, false, RUNS);
        next(x, 0, 107000, 0);
        next(x, 6, 107000, 0);
        x.undo();
        x.pull(0, false, TEARS);
        next(x, 0, 7000, 0);
        next(x, 6, 7000, 0);
        next(told(ONE + "run 0 ; tear 0 ; "), 6, 0, 0);
        next(told(ONE.replace("paper 1", "paper 0") + "run 10 ; "), 6, 0, 0);
        next(told(ONE.replace("worth 100", "worth 0") + "run 10 ; "), 6, 0, 0);
        next(new ElmKite(), 6, 0, 0);
    }

    private static void nextThousandths() {
        of("the greatest mean of what is WORTH in all, in thousandths");
        StringBuilder most = new StringBuilder(ONE.replace("worth 100", "worth 999") + "run 10 ; ");
        for (char name = 'p'; name < 't'; name++) {
            most.append("thing ").append(name).append(" worth 999 stuck 0 frees 0 ;");
        }
        next(told(most.toString()), 0, 3996000, 0);
        next(told(most.toString()), 1, 4995000, 1);
        next(told(most.toString()), 6, 4995000, 1);
        next(told(ONE.replace("worth 100", "worth 1") + "run 1 ; tear 10 ;"), 1, 100, 1);
        next(told(ONE.replace("worth 100", "worth 1") + "run 9 ; tear 10 ;"), 1, 900, 1);
    }

    private static void nextCutAtEachTry() {
        of("in thousandths, cut at each try");
        String one = ONE.replace("worth 100", "worth 1");
        // 300 + .7 of the one ahead: 759.9 is cut, so it is 831 and 881, where 1 - .7^6 is .882351.
        int[] bites = {0, 300, 510, 657, 759, 831, 881};
        // 300 + .49 of the one ahead: 447, 519.03, 554.31, 571.46, 579.79; not cut it would be 580.1.
        int[] tears = {0, 300, 447, 519, 554, 571, 579};
        for (int tries = 0; tries <= 6; tries++) {
            next(told(one + "run 3 ; tear 0 ;"), tries, bites[tries], tries == 0 ? 0 : 1);
            next(told(one + "run 3 ; tear 3 ;"), tries, tears[tries], tries == 0 ? 0 : 1);
            next(told(one + "run 0 ; tear 9 ; lift 3 ; wind east 0 0 ;"), tries, bites[tries], tries == 0 ? 0 : 10);
            next(told(one + "run 0 ; tear 9 ; thing p worth 0 stuck 0 frees 3 ;"), tries, bites[tries], tries == 0 ? 0 : 11);
        }
    }

    private static void nextPulls() {
        of("to PULL soft from north .. west; hard likewise");
        for (int side = 0; side < 4; side++) {
            String twig = ONE.replace("side east", "side " + SIDES[side]);
            next(told(twig + "run (away = 0) * 10 ; "), 1, 100000, 1 + side);
            next(told(twig + "run (away = 0) * force * 10 ; "), 1, 100000, 5 + side);
            // From the side across: .4 of running; from all others it tears.
            next(told(twig + "run (away = 2) * 4 ; tear 10 ;"), 1, 40000, 1 + (side + 2) % 4);
            next(told(twig + "run (away = 2) * (3 + force) ; tear 10 ;"), 1, 40000, 5 + (side + 2) % 4);
        }
        // It bites at most to 9 tight: .9 of running at 9 alone.
        String tight = ONE + "run (8 < tight) * 9 ; tear 0 ;";
        ElmKite x = told(tight);
        for (int i = 0; i < 4; i++) {
            x.pull(0, true, BITES);
        }
        next(x, 1, 0, 0);
        next(x, 2, 90000, 1);
        x.pull(0, false, BITES);
        next(x, 1, 90000, 1);
        // 9 tight stays 9 tight: .9 + .1 * .9.
        next(x, 2, 99000, 1);
    }

    private static void nextPullsHard() {
        of("hard likewise");
        // 2 tighter by a hard one, 1 by a soft one, 9 at most.
        for (int tight = 0; tight <= 9; tight++) {
            ElmKite one = told(ONE + "run (tight = " + Math.min(9, tight + 1) + ") * 8 ; tear 0 ;");
            ElmKite two = told(ONE + "run (tight = " + Math.min(9, tight + 2) + ") * 8 ; tear 0 ;");
            for (int i = 0; i < tight; i++) {
                one.pull(0, false, BITES);
                two.pull(0, false, BITES);
            }
            next(one, 1, tight == 9 ? 80000 : 0, tight == 9 ? 1 : 0);
            next(one, 2, tight == 9 ? 96000 : 80000, 1);
            next(two, 1, tight == 9 ? 80000 : 0, tight == 9 ? 1 : 0);
            next(two, 2, tight == 9 ? 96000 : 80000, tight < 8 ? 5 : 1);
        }
    }

    private static void nextPullsTear() {
        of("the greatest mean of what is WORTH in all");
        String text = ONE + "thing p worth 10 stuck 0 frees 0 ; ";
        // .3 down, of the rest tear torn: the THING is in the hand however it ends.
        next(told(text + "run 3 ; tear 0 ;"), 1, 40000, 1);
        next(told(text + "run 3 ; tear 1 ;"), 1, 40000, 1);
        next(told(text + "run 3 ; tear 10 ;"), 1, 40000, 1);
        next(told(text + "run 3 ; tear 0 ;"), 2, 61000, 1);
        next(told(text + "run 3 ; tear 1 ;"), 2, 58900, 1);
        next(told(text + "run 3 ; tear 5 ;"), 2, 50500, 1);
        next(told(text + "run 3 ; tear 9 ;"), 2, 42100, 1);
        next(told(text + "run 3 ; tear 10 ;"), 2, 40000, 1);
        next(told(text + "run 0 ; tear 10 ;"), 6, 10000, 0);
        next(told(text + "run 10 ; tear 10 ;"), 1, 110000, 1);
        // A twig less, tight or not: the next one is loose.
        ElmKite x = told("twig b high 9 thick 9 side east ; " + ONE.replace("string a", "string b a")
            + "run (tight = 0) * 10 ; tear (0 < tight) * 10 ; thing q worth 0 stuck 0 frees 10 ; ");
        next(x, 2, 100000, 1);
        x.hurl(0, FREES);
        next(x, 1, 100000, 1);
        x.undo();
        x = told("twig b high 9 thick 9 side east ; " + ONE.replace("string a", "string b a")
            + "run (tight = 0) * (away < 2) * 10 ; tear (0 < tight) * 10 ; thing q worth 0 stuck 5 frees 5 ; ");
        x.pull(3, false, BITES);
        next(x, 1, 0, 0);
        next(x, 2, 50000, 11);
        next(x, 3, 100000, 9);
    }

    private static void nextSlack() {
        of("SLACK (if it is tight)");
        String text = ONE + "run (tight = 0) * (away < 2) * 10 ; tear 0 ; ";
        ElmKite x = told(text);
        next(x, 1, 100000, 1);
        x.pull(3, false, BITES);
        next(x, 1, 0, 0);
        next(x, 2, 100000, 9);
        x.pull(3, false, BITES);
        next(x, 2, 0, 0);
        next(x, 3, 100000, 9);
        x = told(text);
        for (int tight = 0; tight < 9; tight++) {
            x.pull(3, false, BITES);
        }
        next(x, 6, 0, 0);
        // Loose it can't be slacker: nothing helps, and none can be waited away.
        next(told(ONE + "run 0 ; tear 10 ;"), 6, 0, 0);
        next(told(ONE + "run 0 ; tear 10 ; " + things(0, 10)), 2, 100000, 11);
        next(told(ONE + "run 0 ; tear 10 ; wind east 0 0 ; lift 10 ;"), 2, 100000, 10);
    }

    private static void nextLift() {
        of("to wait for it to LIFT (if it can: by lift of ten, else nothing is changed)");
        String text = ONE + "run 0 ; tear (away < 2) * 10 ; ";
        next(told(text + "wind east 0 0 ; lift 0 ;"), 6, 0, 0);
        next(told(text + "wind east 0 0 ; lift 1 ;"), 1, 10000, 10);
        next(told(text + "wind east 0 0 ; lift 9 ;"), 1, 90000, 10);
        next(told(text + "wind east 0 0 ; lift 10 ;"), 1, 100000, 10);
        next(told(text + "wind north 0 0 ; lift 10 ;"), 6, 0, 0);
        next(told(text + "wind south 0 0 ; lift 10 ;"), 6, 0, 0);
        next(told(text + "wind west 0 0 ; lift 10 ;"), 6, 0, 0);
        // Where it can't, it isn't waited for, though nothing is lost by it.
        String tearing = ONE + "run 0 ; tear 10 ; ";
        next(told(tearing + "wind east 0 0 ; lift 0 ; " + things(0, 10)), 2, 100000, 11);
        next(told(tearing + "wind north 0 0 ; lift 10 ; " + things(0, 10)), 2, 100000, 11);
        next(told(tearing + "wind south 0 0 ; lift 10 ; " + things(0, 10)), 2, 100000, 11);
        // It doesn't turn by tries, whatever it does by hours.
        next(told(text + "wind north 10 0 ; lift 10 ;"), 6, 0, 0);
        next(told(text + "wind east 10 0 ; lift 5 ;"), 6, 98437, 10);
        ElmKite x = told(text + "wind east 0 0 ; lift 3 ;");
        int[] mean = {0, 30000, 51000, 65700, 75990, 83193, 88235};
        for (int tries = 1; tries <= 6; tries++) {
            next(x, tries, mean[tries], 10);
        }
        x.pull(3, false, BITES);
        next(x, 1, 0, 0);
        next(x, 2, 30000, 9);
        x.slack();
        next(x, 1, 30000, 10);
        x.hour(2);
        next(x, 1, 0, 0);
        // Behind the first one the next one's side is what counts.
        String two = "twig b high 9 thick 9 side north ; " + ONE.replace("string a", "string b a") + "run 0 ; tear 10 ; lift 10 ; ";
        next(told(two + "wind east 0 0 ;"), 2, 0, 0);
        next(told(two.replace("side north", "side east") + "wind east 0 0 ;"), 2, 100000, 10);
        next(told(two + "wind north 0 0 ;"), 2, 0, 0);
        String other = two.replace("thick 9 side north", "thick 5 side north").replace("run 0", "run (size = 5) * 10");
        next(told(other + "wind east 0 0 ;"), 2, 100000, 10);
        next(told(other + "wind north 0 0 ;"), 2, 0, 0);
        other = two.replace("string b a", "string a b").replace("thick 9 side east", "thick 5 side east").replace("run 0", "run (size = 5) * 10");
        next(told(other + "wind north 0 0 ;"), 2, 100000, 10);
        next(told(other + "wind east 0 0 ;"), 2, 0, 0);
    }

    private static String things(int stuck, int... frees) {
        StringBuilder text = new StringBuilder();
        for (int i = 0; i < frees.length; i++) {
            text.append("thing ").append((char) ('p' + i)).append(" worth 0 stuck ").append(stuck).append(" frees ")
                .append(frees[i]).append(" ; ");
        }
        return text.toString();
    }

    private static void nextHurl() {
        of("to HURL each THING in the hand");
        String text = ONE + "run 0 ; tear 10 ; ";
        next(told(text + things(0, 0)), 6, 0, 0);
        next(told(text + things(0, 1)), 1, 10000, 11);
        next(told(text + things(0, 10)), 1, 100000, 11);
        next(told(text + things(0, 0, 5)), 1, 50000, 12);
        next(told(text + things(0, 0, 0, 5)), 1, 50000, 13);
        ElmKite x = told(text + things(5, 0, 0, 0, 5));
        next(x, 1, 50000, 14);
        x.hurl(3, STICKS);
        next(x, 6, 0, 0);
        // It sticks: it is gone for the try behind it. .5 + .2 * .5 + .3 * .5 with another one like it, else .5 + .2 * .5.
        next(told(text + things(3, 5)), 2, 60000, 11);
        next(told(text + things(3, 5, 5)), 2, 75000, 11);
        // .1 of 100, .5 of 200, .4 of 100.
        next(told(text + "thing p worth 0 stuck 1 frees 5 ; thing q worth 100 stuck 0 frees 0 ;"), 1, 150000, 11);
        next(told(text + "thing p worth 0 stuck 5 frees 1 ; thing q worth 100 stuck 0 frees 0 ;"), 1, 110000, 11);
        next(told(text + "thing p worth 0 stuck 9 frees 1 ; thing q worth 100 stuck 0 frees 0 ;"), 1, 110000, 11);
        // What is lost by sticking counts: 5 of ten at 100 against 5 of ten at 120.
        next(told(text + "thing p worth 100 stuck 5 frees 5 ;"), 1, 100000, 0);
        next(told(text + "thing p worth 99 stuck 5 frees 5 ;"), 1, 99500, 11);
    }

    private static void nextOfEqualOnes() {
        of("of equal ones the first");
        next(told(ONE + "run 10 ; lift 10 ; wind east 0 0 ; " + things(0, 10)), 1, 100000, 1);
        next(told(ONE + "run force * 10 ; tear 10 ; lift 10 ; wind east 0 0 ; " + things(0, 10)), 1, 100000, 5);
        next(told(ONE.replace("east", "west") + "run (away = 0) * force * 10 ; tear 10 ; lift 10 ; wind west 0 0 ;"), 1, 100000, 8);
        next(told(ONE + "run 0 ; tear 10 ; lift 10 ; wind east 0 0 ; " + things(0, 10)), 1, 100000, 10);
        next(told(ONE + "run 0 ; tear 10 ; " + things(0, 10, 10, 10, 10)), 1, 100000, 11);
        next(told(ONE + "run 0 ; tear 10 ; " + things(0, 9, 10, 10)), 1, 100000, 12);
        ElmKite x = told(ONE + "run (tight = 0) * (away < 2) * 10 ; tear (0 < tight) * 10 ; " + things(0, 10));
        x.pull(3, false, BITES);
        next(x, 1, 100000, 11);
        next(x, 2, 100000, 9);
        x = told(ONE + "run (0 < tight or force) * (away < 2) * 10 ; tear 0 ; ");
        next(x, 2, 100000, 1);
        x.pull(3, false, BITES);
        next(x, 2, 100000, 1);
        // To stop is as good: 100 in the hand, by which half the time the kite is freed.
        next(told(ONE + "run 0 ; tear 10 ; thing p worth 100 stuck 5 frees 5 ;"), 1, 100000, 0);
    }

    // ---- TOLD

    private static void toldTwelve() {
        of("TOLD .. (12 at most)");
        ElmKite x = told(ONE);
        for (int many = 1; many <= 12; many++) {
            due("tell, " + many, x.tell(many % 4, many % 3 == 0), true);
            due("count(9)", x.count(9), many);
        }
        due("tell, 13", x.tell(0, true), false);
        due("tell, 13", x.tell(3, false), false);
        due("count(9)", x.count(9), 12);
        for (int side = 0; side < 4; side++) {
            for (int ran = 0; ran < 2; ran++) {
                x = told("twig a high 9 thick 5 side east ; run size ;");
                for (int many = 1; many <= 12; many++) {
                    due("tell(" + side + ", " + (ran == 1) + "), " + many, x.tell(side, ran == 1), true);
                }
                due("tell(" + side + ", " + (ran == 1) + "), 13", x.tell(side, ran == 1), false);
                due("likely(1)", x.likely(1), MILLION);
                due("tells()", x.tells(), 0);
            }
        }
    }

    private static void toldLooseAndSoft() {
        of("TOLD of a string over one unknown TWIG, loose: that a soft PULL .. ran off, or did not");
        ElmKite x = told("twig a high 9 thick 9 side east ; twig b high 9 thick 9 side east ; string a b ; "
            + "run tight + force + (away = 2) * 5 ; tear 0 ;");
        x.pull(0, true, BITES);
        due("tight", x.twig(1, 4), 2);
        due("tell(1, true)", x.tell(1, true), true);
        due("loose and soft it never does: fits()", x.fits(), 0);
        due("tells()", x.tells(), -1);
        x = told("twig a high 9 thick 9 side east ; run 10 - tight - force ; ");
        due("tell(1, false)", x.tell(1, false), true);
        due("loose and soft it always does: fits()", x.fits(), 0);
        x = told("twig a high 9 thick 9 side east ; twig b high 9 thick 9 side west ; ");
        for (int i = 0; i < 6; i++) {
            x.tell(2, true);
            x.tell(0, false);
        }
        due("it is loose again each time: likely(1)", x.likely(1), 500000);
        due("though the kite is down: fits()", x.fits(), 3);
    }

    private static void fits() {
        of("FITS: TWIGS by which all TOLD has a chance above 0");
        String eight = twigs(8, "a") + "run size ; ";
        String ten = "twig a high 9 thick 1 side east ; twig b high 9 thick 9 side east ; twig c high 9 thick 10 side east ; "
            + "twig d high 9 thick 11 side east ; run size - 1 ; ";
        due("no TWIGS", new ElmKite().fits(), 0);
        ElmKite x = told(eight);
        due("none TOLD, eight", x.fits(), 255);
        x.tell(0, true);
        x.tell(0, false);
        due("1 to 8 of ten, eight", x.fits(), 255);
        // 0, 8, 9 and 10 of ten.
        x = told(ten);
        due("none TOLD", x.fits(), 15);
        x.tell(0, true);
        due("0 of ten doesn't fit", x.fits(), 14);
        x.tell(0, false);
        due("10 of ten doesn't fit", x.fits(), 6);
        x = told(ten);
        x.tell(0, false);
        due("10 of ten doesn't fit", x.fits(), 7);
        x = told(eight);
        for (int i = 0; i < 6; i++) {
            x.tell(0, true);
            x.tell(1, false);
        }
        due("12 TOLD", x.fits(), 255);
    }

    private static void likelyFirst() {
        of("LIKELY: .. (of ten, each; of none TOLD 1) .. the likeliest TWIG, of equal ones the first");
        int[] share = {0, 1000000, 500000, 333333, 250000, 200000, 166666, 142857, 125000};
        for (int many = 1; many <= 8; many++) {
            ElmKite x = told(twigs(many, "a") + "run 5 ;");
            due(many + ", none TOLD: likely(0)", x.likely(0), 0);
            due(many + ", none TOLD: likely(1)", x.likely(1), share[many]);
            for (int i = 0; i < 12; i++) {
                x.tell(i % 4, i % 2 == 0);
            }
            due(many + ", 12 TOLD: likely(0)", x.likely(0), 0);
            due(many + ", 12 TOLD: likely(1)", x.likely(1), share[many]);
        }
        due("no TWIGS: likely(0)", new ElmKite().likely(0), -1);
        due("no TWIGS: likely(1)", new ElmKite().likely(1), -1);
        ElmKite x = told(twigs(8, "a") + "run size ;");
        x.tell(0, true);
        due("the last one: likely(0)", x.likely(0), 7);
        due("8 of 36: likely(1)", x.likely(1), 222222);
        x = told(twigs(8, "a") + "run 10 ;");
        for (int i = 0; i < 12; i++) {
            x.tell(2, true);
        }
        due("12 times 10 of ten: likely(1)", x.likely(1), 125000);
        // The first one can't be.
        x = told(twigs(3, "a") + "run (1 < size) * 5 ;");
        x.tell(0, true);
        due("the first that can: likely(0)", x.likely(0), 1);
        due("of two: likely(1)", x.likely(1), 500000);
    }

    private static void likelyCut() {
        of("its chance in millionths, cut");
        ElmKite x = told("twig a high 9 thick 6 side east ; twig b high 9 thick 3 side east ; run size ;");
        x.tell(0, true);
        due("6 of 9", x.likely(1), 666666);
        x.tell(0, true);
        due("36 of 45", x.likely(1), 800000);
        x = told("twig a high 9 thick 9 side east ; twig b high 9 thick 1 side east ; run size ;");
        for (int i = 0; i < 7; i++) {
            x.tell(0, true);
        }
        due("4782969 of 4782970", x.likely(1), 999999);
        x = told("twig a high 9 thick 9 side east ; twig b high 9 thick 1 side east ; run size - 1 ;");
        x.tell(0, true);
        due("8 of 8", x.likely(1), MILLION);
    }

    private static void tells() {
        of("TELLS: .. the greatest product with running off, and the greatest one without, together");
        for (int side = 0; side < 4; side++) {
            // By its own side: 10 and 10; by others: 0 or 2, and 10.
            String two = "twig a high 9 thick 10 side " + SIDES[side] + " ; twig b high 9 thick 2 side "
                + SIDES[(side + 1) % 4] + " ; run (away = 0) * size ; ";
            ElmKite x = told(two);
            due(two, x.tells(), side);
            x.tell(side, true);
            // The one alone is left: 10 with all others without, 10 by its own with.
            due(two + "TOLD", x.tells(), 0);
        }
        ElmKite x = told("twig a high 9 thick 9 side east ; twig b high 9 thick 9 side west ; run 5 - away * 2 ;");
        // From north 3 and 7; east 5 and 9; south 3 and 7; west 5 and 9.
        due("14 against 10", x.tells(), 1);
        x.tell(1, true);
        // Products 5 and 1: from north 15 and 35, from east 25 and 25, from west 5 and 45.
        due("50 by each", x.tells(), 0);
        due("no TWIGS", new ElmKite().tells(), -1);
        // Loose and soft: from north 0 and 10, elsewhere 5 and 5. By force, or tight, north would be the best.
        x = told("twig a high 9 thick 9 side north ; twig b high 9 thick 1 side north ; string a b ; "
            + "run (away = 0) * (force or tight) * (size = 9) * 10 + (away = 1) * 5 * (size = 9) + (away = 2) * 6 * (size = 9) ; ");
        due("from across: 6 and 10 against 5 and 10", x.tells(), 2);
        x.pull(0, true, BITES);
        due("tight by hand", x.tells(), 2);
    }

    private static void tellsOfEqualOnes() {
        of("TELLS: .. of equal ones the first");
        due("all are equal", told(twigs(8, "a") + "run 5 ;").tells(), 0);
        due("0 of ten", told(twigs(1, "a") + "run 0 ;").tells(), 0);
        due("10 of ten", told(twigs(1, "a") + "run 10 ;").tells(), 0);
        due("east and west", told("twig a high 9 thick 9 side east ; twig b high 9 thick 9 side west ; run 10 * (away = 0) ;").tells(), 1);
        due("south and west", told("twig a high 9 thick 9 side west ; twig b high 9 thick 9 side south ; run 10 * (away = 0) ;").tells(), 2);
        ElmKite x = told(twigs(8, "a") + "run 10 ;");
        for (int i = 0; i < 12; i++) {
            x.tell(i % 4, true);
        }
        due("12 TOLD, by 10 of ten", x.tells(), 0);
        x = told("twig a high 9 thick 9 side south ; run (away = 0) * 10 ; ");
        x.tell(0, true);
        due("none fits", x.tells(), -1);
    }

    // ---- CUT

    private static void cutSteps() {
        of("CUT from a side, with so many steps (each from one side to the next) at most");
        int[] away = {0, 1, 2, 1};
        for (int from = 0; from < 4; from++) {
            for (int to = 0; to < 4; to++) {
                ElmKite x = told(ONE.replace("side east", "side " + SIDES[to]));
                int needs = away[(to - from + 4) % 4];
                String call = "from " + SIDES[from] + " to " + SIDES[to] + ": cut";
                if (needs > 0) {
                    due(call + ", one step less", x.cut(from, needs - 1, 0), 1);
                }
                due(call, x.cut(from, needs, 0), 0);
                due(call + ", one step more", x.cut(from, needs + 1, 0), 0);
                due(call + ", 20 steps", x.cut(from, 20, 0), 0);
            }
        }
        ElmKite x = told(ONE);
        due("steps -1", x.cut(1, -1, 0), -1);
        due("steps 0", x.cut(1, 0, 0), 0);
        due("steps 20", x.cut(1, 20, 0), 0);
        due("steps 21", x.cut(1, 21, 0), -1);
    }

    private static String across() {
        StringBuilder text = new StringBuilder();
        for (int i = 0; i < 6; i++) {
            text.append("twig ").append((char) ('a' + i)).append(" high ").append(i % 2 == 0 ? 1 : 60).append(" thick 9 side ")
                .append(i % 2 == 0 ? "east" : "west").append(" ; ");
        }
        return text + "string a b c d e f ; ladder 1 pole 0 ; ";
    }

    private static void cutOneBehindTheOther() {
        of("one walks to the side of the LAST TWIG, the string is off it, on to that of the next one, and so on, "
            + "as long as steps last; then it is cut: how many TWIGS are left");
        ElmKite x = told(across());
        for (int steps = 0; steps <= 20; steps++) {
            int left = Math.max(0, 6 - steps / 2);
            due("cut(1, " + steps + ", 0)", x.cut(1, steps, 0), left);
            due("cut(1, " + steps + ", 1)", x.cut(1, steps, 1), Math.max(0, 60 * (left - 1)));
        }
        due("from its own side", x.cut(3, 0, 0), 5);
        due("from the one next to it, 1", x.cut(2, 1, 0), 5);
        due("from the one next to it, 2", x.cut(2, 2, 0), 5);
        due("from the one next to it, 3", x.cut(2, 3, 0), 4);
        due("it stands as ahead", x.count(2), 6);
        due("none by one side", told(twigs(6, "a b c d e f")).cut(1, 0, 0), 0);
    }

    private static void cutStringLost() {
        of("how much string is lost: of each two TWIGS left next to each other how far apart they are in height, "
            + "and one more for each such two");
        String one = "twig a high 10 thick 9 side east ; ";
        for (int high = 9; high <= 11; high++) {
            String two = one + "twig b high " + high + " thick 9 side east ; ";
            due("10 and " + high, told(two + "string a b ; ").cut(3, 0, 1), Math.abs(high - 10) + 1);
            due(high + " and 10", told(two + "string b a ; ").cut(3, 0, 1), Math.abs(high - 10) + 1);
        }
        due("one left", told(one + "string a ;").cut(3, 0, 1), 0);
        due("none left", told(one + "string a ;").cut(1, 0, 1), 0);
        due("1 and 60", told(across()).cut(1, 8, 1), 60);
        ElmKite x = told("twig a high 60 thick 9 side east ; twig b high 1 thick 9 side east ; twig c high 58 thick 9 side east ; "
            + "string a b c ; ladder 1 pole 0 ;");
        due("three", x.cut(3, 0, 1), 59 + 57 + 2);
        x.climb(1, true);
        due("the middle one off", x.cut(3, 0, 1), 2 + 1);
    }

    // ---- WAITS, LASTS

    private static void waitsNowOrLater() {
        of("WAITS: the chance .. that the wind comes from a side, now or in some hour as it begins, up to so many hours on");
        ElmKite x = told("wind east 2 3 ; ");
        due("now", x.waits(1, 0), MILLION);
        due("now, 48 hours", x.waits(1, 48), MILLION);
        due("not now", x.waits(2, 0), 0);
        due("in an hour", x.waits(2, 1), 200000);
        due("in an hour", x.waits(0, 1), 300000);
        due("across, in an hour", x.waits(3, 1), 0);
        due("across, in two", x.waits(3, 2), 130000);
        due("in two", x.waits(2, 2), 300000);
        due("hours -1", x.waits(1, -1), -1);
        due("hours 49", x.waits(1, 49), -1);
        x.hour(3);
        due("from where it comes now", x.waits(3, 0), MILLION);
        due("from where it came", x.waits(1, 0), 0);
        x = told("wind north 10 0 ;");
        for (int hours = 0; hours <= 48; hours++) {
            for (int side = 0; side < 4; side++) {
                due("it turns each hour: waits(" + side + ", " + hours + ")", x.waits(side, hours), hours >= side ? MILLION : 0);
            }
        }
        x = told("wind north 0 0 ;");
        for (int side = 1; side < 4; side++) {
            due("it never turns: waits(" + side + ", 48)", x.waits(side, 48), 0);
        }
    }

    private static void waitsComesRound() {
        of("it turns on to the next side, and back to the one ahead");
        for (int wind = 0; wind < 4; wind++) {
            ElmKite on = told("wind " + SIDES[wind] + " 10 0 ;");
            ElmKite back = told("wind " + SIDES[wind] + " 0 10 ;");
            for (int turns = 0; turns < 4; turns++) {
                for (int hours = 0; hours < 5; hours++) {
                    int due = hours >= turns ? MILLION : 0;
                    due(SIDES[wind] + ", on by " + turns + " in " + hours, on.waits((wind + turns) % 4, hours), due);
                    due(SIDES[wind] + ", back by " + turns + " in " + hours, back.waits((wind - turns + 4) % 4, hours), due);
                }
            }
        }
        // 10 together: it never stays, so that it is across or back in two hours.
        ElmKite x = told("wind west 4 6 ;");
        due("on from west", x.waits(0, 1), 400000);
        due("back from west", x.waits(2, 1), 600000);
        due("across in two", x.waits(1, 2), 520000);
    }

    private static void waitsCutAtEachHour() {
        of("in millionths, cut at each hour");
        // .1 + .9 of the one ahead: .5217031 is cut; at 9 hours it would be .612579511 if it were not.
        int[] due = {0, 100000, 190000, 271000, 343900, 409510, 468559, 521703, 569532, 612578, 651320, 686188};
        ElmKite x = told("wind east 1 0 ;");
        for (int hours = 0; hours < due.length; hours++) {
            due("waits(2, " + hours + ")", x.waits(2, hours), due[hours]);
        }
        int chance = 0;
        for (int hours = 0; hours <= 48; hours++) {
            due("waits(2, " + hours + ")", x.waits(2, hours), chance);
            chance = (MILLION + 9 * chance) / 10;
        }
    }

    private static void waitsNoLaterThanPaper() {
        of("but no later than the last one in which the paper would not be 0 yet (as if the kite stayed up; with paper 0 now: 0)");
        int[] due = {0, 100000, 190000, 271000, 343900, 409510, 468559, 521703, 569532, 612578};
        String up = "twig a high 9 thick 9 side east ; string a ; tear 5 ; wind east 1 0 ; ";
        // At 20, 8 hours on, the first dew falls.
        for (int paper = 1; paper <= 2; paper++) {
            ElmKite x = told(up + "dew 1 ; kite worth 1 paper " + paper + " ; ");
            for (int hours = 0; hours <= 9; hours++) {
                due("paper " + paper + ": waits(2, " + hours + ")", x.waits(2, hours), due[Math.min(hours, 6 + paper)]);
            }
            due("paper " + paper + ": waits(2, 48)", x.waits(2, 48), due[6 + paper]);
            x.hour(1);
            due("an hour on, paper " + paper + ": waits(2, 48)", x.waits(2, 48), due[5 + paper]);
        }
        ElmKite x = told(up + "dew 2 ; kite worth 1 paper 2 ; ");
        for (int hour = 13; hour <= 19; hour++) {
            x.hour(1);
        }
        due("it is 0 in an hour: now", x.waits(1, 48), MILLION);
        due("it is 0 in an hour: not now", x.waits(2, 48), 0);
        x.hour(1);
        due("paper 0: now", x.waits(1, 0), 0);
        due("paper 0: now, 48 hours", x.waits(1, 48), 0);
        due("paper 0: not now", x.waits(2, 48), 0);
        due("paper 0 as told", told("kite worth 1 paper 0 ; wind east 1 0 ;").waits(1, 9), 0);
        due("paper 1, no dew", told("kite worth 1 paper 1 ; wind east 1 0 ;").waits(2, 9), due[9]);
        x = told(up + "dew 1 ; kite worth 1 paper 2 ; ");
        x.pull(3, true, TEARS);
        due("torn: as if it stayed up", x.waits(2, 48), due[8]);
        due("down: as if it stayed up", told("wind east 1 0 ; dew 1 ; kite worth 1 paper 2 ; ").waits(2, 48), due[8]);
    }

    private static void lasts() {
        of("LASTS: how many hours from now till it would be 0 (0: it is; 240 at most)");
        due("paper 0", told("kite worth 1 paper 0 ; dew 1 ;").lasts(), 0);
        due("paper 0, no dew", told("kite worth 1 paper 0 ;").lasts(), 0);
        due("paper 1, no dew", told("kite worth 1 paper 1 ;").lasts(), -1);
        due("paper 99, no dew", told("kite worth 1 paper 99 ;").lasts(), -1);
        // Ten hours of dew a night, the first of them 8 hours on.
        int[] paper = {1, 2, 9, 10, 11, 20, 21, 90, 91, 99};
        int[] hours = {8, 9, 16, 17, 32, 41, 56, 209, 224, 232};
        for (int i = 0; i < paper.length; i++) {
            due("paper " + paper[i] + ", dew 1", told("kite worth 1 paper " + paper[i] + " ; dew 1 ;").lasts(), hours[i]);
        }
        for (int left = 7; left <= 10; left++) {
            due("paper " + left + ", dew 9", told("kite worth 1 paper " + left + " ; dew 9 ;").lasts(), left > 9 ? 9 : 8);
        }
        due("paper 99, dew 9", told("kite worth 1 paper 99 ; dew 9 ;").lasts(), 32);
        due("paper 90, dew 9", told("kite worth 1 paper 90 ; dew 9 ;").lasts(), 17);
        due("paper 91, dew 9", told("kite worth 1 paper 91 ; dew 9 ;").lasts(), 32);
    }

    private static void lastsFromEachHour() {
        of("LASTS: how many hours from now .. (240 at most)");
        // A kite that is down keeps its paper till then; from 5 on it is the longest that can be.
        ElmKite x = told("kite worth 1 paper 99 ; dew 1 ;");
        ElmKite y = told("kite worth 1 paper 1 ; dew 1 ;");
        for (int hour = 12; hour < 20; hour++) {
            due("from " + hour + ", paper 99", x.lasts(), 244 - hour);
            due("from " + hour + ", paper 1", y.lasts(), 20 - hour);
            x.hour(0);
            y.hour(0);
        }
        for (int hour = 20; hour < 29; hour++) {
            due("from " + hour % 24 + ", paper 1", y.lasts(), 1);
            x.hour(0);
            y.hour(0);
        }
        due("from 5, paper 99", x.lasts(), 239);
        due("from 5, paper 1", y.lasts(), 15);
        x.hour(0);
        y.hour(0);
        due("from 6, paper 99", x.lasts(), 238);
        due("from 6, paper 1", y.lasts(), 14);
    }

    // ---- FAR, MINUTES

    private static void far() {
        of("FAR out on a TWIG: the greatest number of feet (0 to 20) by which its thickness, less one for each, "
            + "is no less than one weighs");
        for (int thick = 1; thick <= 20; thick++) {
            for (int weighs = 1; weighs <= 22; weighs++) {
                ElmKite x = told("twig a high 1 thick " + thick + " side east ; weighs " + weighs + " ;");
                due("thick " + thick + ", weighs " + weighs, x.far(0), thick < weighs ? -1 : thick - weighs);
            }
        }
        due("weighs 99", told("twig a high 1 thick 20 side east ; weighs 99 ;").far(0), -1);
        // Its own thickness, whatever it is on.
        ElmKite x = told("twig a high 1 thick 9 side east ; twig b high 1 thick 20 side east on a ; ");
        due("what it is on: far(0)", x.far(0), -1);
        due("on a thin one: far(1)", x.far(1), 10);
    }

    private static String minutesTree(int high, int thick, int ladder, int pole) {
        return "twig a high " + high + " thick " + thick + " side east ; ladder " + ladder + " pole " + pole + " ;";
    }

    private static void minutes() {
        of("MINUTES to a TWIG: by the pole 2, by the ladder 5, by both 9, if it is no higher");
        for (int high = 1; high <= 60; high++) {
            due("pole 29, high " + high, told(minutesTree(high, 1, 0, 29)).minutes(0), high <= 29 ? 2 : -1);
            due("ladder 29, high " + high, told(minutesTree(high, 1, 29, 0)).minutes(0), high <= 29 ? 5 : -1);
            due("ladder 30, pole 20, high " + high, told(minutesTree(high, 1, 30, 20)).minutes(0),
                high <= 20 ? 2 : high <= 30 ? 5 : high <= 50 ? 9 : -1);
            due("none, high " + high, told(minutesTree(high, 1, 0, 0)).minutes(0), -1);
            due("60 and 60, high " + high, told(minutesTree(high, 1, 60, 60)).minutes(0), 2);
        }
        of("MINUTES ..: climbing as many as it is high, if it can be climbed");
        for (int thick = 9; thick <= 11; thick++) {
            due("thick " + thick, told(minutesTree(7, thick, 0, 0)).minutes(0), thick < 10 ? -1 : 7);
        }
        String on = "twig a high 5 thick 9 side east ; twig b high 8 thick 20 side east on a ; ";
        due("what it is on bears nobody", told(on).minutes(1), -1);
        due("it does, weighs 9", told(on + "weighs 9 ;").minutes(1), 8);
        due("high 1", told(minutesTree(1, 10, 0, 0)).minutes(0), 1);
        due("high 60", told(minutesTree(60, 10, 0, 0)).minutes(0), 60);
    }

    private static void minutesTheLeast() {
        of("MINUTES ..: the least");
        for (int high = 1; high <= 12; high++) {
            due("pole, high " + high, told(minutesTree(high, 10, 60, 60)).minutes(0), Math.min(high, 2));
            due("ladder, high " + high, told(minutesTree(high, 10, 60, 0)).minutes(0), Math.min(high, 5));
            due("both, high " + high, told(minutesTree(high, 10, high - 1, 1)).minutes(0),
                high == 1 ? 1 : Math.min(high, high == 2 ? 5 : 9));
            due("neither, high " + high, told(minutesTree(high, 10, 0, 0)).minutes(0), high);
        }
    }

    // ---- The MAP

    private static void mapEdges() {
        of("A MAP of 16 by 16");
        ElmKite x = told("cord 15 ; elm 15 0 ; ");
        due("safe(0, 0)", x.safe(0, 0), 7);
        due("safe(15, 15)", x.safe(15, 15), 11);
        due("safe(0, 15)", x.safe(0, 15), 15);
        due("safe(15, 0)", x.safe(15, 0), 0);
        for (int on = 0; on < 16; on++) {
            due("safe(-1, " + on + ")", x.safe(-1, on), -1);
            due("safe(16, " + on + ")", x.safe(16, on), -1);
            due("safe(" + on + ", -1)", x.safe(on, -1), -1);
            due("safe(" + on + ", 16)", x.safe(on, 16), -1);
            due("nearest(-1, " + on + ")", x.nearest(-1, on), -1);
            due("nearest(16, " + on + ")", x.nearest(16, on), -1);
            due("nearest(" + on + ", -1)", x.nearest(on, -1), -1);
            due("nearest(" + on + ", 16)", x.nearest(on, 16), -1);
        }
        // It doesn't come round at the edges.
        x = told("cord 1 ; elm 0 0 ;");
        due("safe(15, 0)", x.safe(15, 0), 15);
        due("safe(0, 15)", x.safe(0, 15), 15);
        x = told("cord 1 ; elm 15 15 ;");
        due("safe(0, 15)", x.safe(0, 15), 15);
        due("safe(15, 0)", x.safe(15, 0), 15);
        x = told("cord 1 ; elm 0 5 ; elm 15 9 ; elm 7 15 ; elm 9 0 ;");
        due("safe(15, 4)", x.safe(15, 4), 15);
        due("safe(15, 6)", x.safe(15, 6), 15);
        due("safe(0, 8)", x.safe(0, 8), 15);
        due("safe(8, 0)", x.safe(8, 0), 7);
        due("safe(6, 0)", x.safe(6, 0), 15);
    }

    private static void mapWhereTheWindGoes() {
        of("SAFE are sides of the wind by which no elm is at the place, nor up to cord places on");
        int[] over = {0, -1, 0, 1};
        int[] on = {1, 0, -1, 0};
        for (int cord = 1; cord <= 7; cord++) {
            ElmKite x = told("elm 8 8 ; cord " + cord + " ;");
            due("cord " + cord + ", at the place", x.safe(8, 8), 0);
            for (int side = 0; side < 4; side++) {
                for (int away = 1; away <= 7; away++) {
                    int sides = away <= cord ? 15 - (1 << side) : 15;
                    due("cord " + cord + ", " + away + " ahead of it by " + SIDES[side],
                        x.safe(8 - away * over[side], 8 - away * on[side]), sides);
                }
            }
            due("cord " + cord + ", beside it", x.safe(7, 7), 15);
            due("cord " + cord + ", beside it", x.safe(9, 7), 15);
        }
    }

    private static void cells() {
        of("CELLS: places that are SAFE by a side (by all)");
        ElmKite x = told("cord 15 ;");
        for (int side = -1; side < 4; side++) {
            due("no elm: places(" + side + ")", x.places(side), 256);
        }
        int[] first = {253, 255, 254, 254, 255};
        int[] last = {253, 254, 255, 255, 254};
        for (int side = -1; side < 4; side++) {
            due("elm 0 0: places(" + side + ")", told("cord 1 ; elm 0 0 ;").places(side), first[side + 1]);
            due("elm 15 15: places(" + side + ")", told("cord 1 ; elm 15 15 ;").places(side), last[side + 1]);
        }
        x = told("cord 15 ; elm 0 0 ; elm 15 15 ; elm 0 15 ; elm 15 0 ;");
        due("four corners: places(0)", x.places(0), 256 - 32);
        due("four corners: places(-1)", x.places(-1), 14 * 14);
        x = told("cord 15 ; elm 0 0;elm 1 1;elm 2 2;elm 3 3;elm 4 4;elm 5 5;elm 6 6;elm 7 7;");
        due("the fewest there can be: places(-1)", x.places(-1), 64);
        due("side 4", x.places(4), -1);
        due("side -2", x.places(-2), -1);
    }

    private static void nearest() {
        of("NEAREST place to one that is SAFE by all: how many steps over and on, together, away");
        ElmKite x = told("cord 15 ; elm 0 0 ;");
        due("it is SAFE itself", x.nearest(1, 1), 0);
        due("one over", x.nearest(0, 1), 1);
        due("one on", x.nearest(1, 0), 1);
        due("one over and one on", x.nearest(0, 0), 2);
        due("the far edge", x.nearest(15, 0), 1);
        due("the far corner", x.nearest(15, 15), 0);
        due("no elm", new ElmKite().nearest(0, 0), 0);
        x = told("cord 15 ; elm 0 0;elm 1 1;elm 2 2;elm 3 3;elm 4 4;elm 5 5;elm 6 6;elm 7 7;");
        for (int from = 0; from < 16; from++) {
            due("nearest(" + from + ", " + from + ")", x.nearest(from, from), from < 8 ? 16 - 2 * from : 0);
            due("nearest(15, " + from + ")", x.nearest(15, from), Math.max(0, 8 - from));
        }
        // Off the MAP is no place.
        due("nearest(8, 15)", told("cord 15 ; elm 0 15 ; elm 0 14 ; ").nearest(8, 15), 2);
        due("nearest(8, 0)", told("cord 15 ; elm 0 0 ; elm 0 1 ; ").nearest(8, 0), 2);
        due("nearest(15, 8)", told("cord 15 ; elm 15 0 ; elm 14 0 ; ").nearest(15, 8), 2);
        due("nearest(0, 8)", told("cord 15 ; elm 0 0 ; elm 1 0 ; ").nearest(0, 8), 2);
        // Both ways off: four across the middle.
        x = told("cord 15 ; elm 6 6 ; elm 7 7 ; elm 8 8 ; elm 9 9 ;");
        due("nearest(7, 7)", x.nearest(7, 7), 4);
        due("nearest(8, 8)", x.nearest(8, 8), 4);
        due("nearest(9, 6)", x.nearest(9, 6), 2);
    }

    // ---- CAME

    private static void came() {
        of("CAME: rows of all THINGS in which they may have come, by what is over: how many");
        int[] rows = {1, 1, 2, 6, 24};
        for (int many = 0; many <= 4; many++) {
            ElmKite x = told(things(1, new int[many]) + "dew 1 ;");
            due(many + " THINGS, nothing over: rows", x.came(-1, 0), rows[many]);
            for (int thing = 0; thing < many; thing++) {
                due(many + " THINGS: the first place", x.came(thing, 0), 0);
                due(many + " THINGS: the last place", x.came(thing, 1), many - 1);
            }
            due(many + " THINGS: one too many", x.came(many, 0), -2);
        }
        ElmKite x = told(things(1, 0, 0, 0, 0) + "over s r ; over r q ; over q p ;");
        due("one row", x.came(-1, 0), 1);
        for (int thing = 0; thing < 4; thing++) {
            due("the first place of " + thing, x.came(thing, 0), 3 - thing);
            due("the last place of " + thing, x.came(thing, 1), 3 - thing);
        }
        of("CAME: .. of a THING the first, the last place it can have (from 0)");
        x = told(things(1, 0, 0, 0, 0) + "over p s ; over q s ; ");
        int[] first = {0, 0, 0, 2};
        int[] last = {2, 2, 3, 3};
        due("rows", x.came(-1, 0), 8);
        for (int thing = 0; thing < 4; thing++) {
            due("the first place of " + thing, x.came(thing, 0), first[thing]);
            due("the last place of " + thing, x.came(thing, 1), last[thing]);
        }
    }

    private static void cameOfThisTree() {
        of("CAME: rows of all THINGS");
        int[] rows = {1, 1, 2, 6, 24};
        ElmKite x = told(things(1, 0, 0, 0, 0));
        for (int many = 4; many >= 0; many--) {
            for (int thing = 0; thing < many; thing++) {
                due(many + " THINGS: the last place", x.came(thing, 1), many - 1);
                due(many + " THINGS: the first place", x.came(thing, 0), 0);
            }
            due(many + " THINGS: rows", x.came(-1, 1), rows[many]);
            due("a TREE of one less", Feeding.tree(x, things(1, new int[Math.max(0, many - 1)])), 0);
        }
    }

    private static void cameByWhatIsOver() {
        of("CAME: .. -2: .. no row (but NONE)");
        String[] round = {"over p q ; over q p ;", "over p q ; over q r ; over r p ;",
            "over p q ; over q r ; over r s ; over s p ;"};
        for (int i = 0; i < round.length; i++) {
            ElmKite x = told(things(1, 0, 0, 0, 0) + round[i]);
            due(round[i] + " rows", x.came(-1, 0), 0);
            for (int thing = 0; thing < 4; thing++) {
                due(round[i] + " the first place of " + thing, x.came(thing, 0), -2);
                due(round[i] + " the last place of " + thing, x.came(thing, 1), -2);
            }
        }
        // What sticks, and what stands, doesn't count.
        ElmKite x = told(ONE + things(1, 0, 0));
        x.hurl(0, STICKS);
        due("one up there: rows", x.came(-1, 0), 2);
        due("one up there: its last place", x.came(0, 1), 1);
    }

    // ---- DRAWS

    /** The document's DRAWS, one by one. */
    private static final class ByHand {
        private long g;

        ByHand(int seed) {
            g = seed;
        }

        long below(int m) {
            g = (g * 1103515245L + 12345L) % 2147483648L;
            return g / 65536L % m;
        }
    }

    private static final int[] SEEDS = {0, 1, 2, 77, 4999, 9998, 9999};

    private static void draws() {
        of("A DRAW below m: g becomes (g * 1103515245 + 12345) modulo 2147483648 (g is the SEED at first); "
            + "it is g / 65536, cut, modulo m");
        // Of SEED 0 the first g is 12345: below 65536, so 0 is drawn. Of SEED 1 it is 1103527590: 16838, so 8 is.
        String lifting = ONE + "run 0 ; tear 10 ; wind east 0 0 ; lift ";
        due("SEED 0 draws 0", told(lifting + "1 ;").afternoons(0, 1, 1, 0), 100);
        due("SEED 1 draws 8", told(lifting + "8 ;").afternoons(1, 1, 1, 0), 0);
        due("SEED 1 draws 8", told(lifting + "9 ;").afternoons(1, 1, 1, 0), 100);
        for (int lift = 1; lift <= 10; lift++) {
            ElmKite x = told(lifting + lift + " ;");
            for (int seed : SEEDS) {
                ByHand hand = new ByHand(seed);
                int down = 0;
                for (int i = 0; i < 20; i++) {
                    boolean up = true;
                    for (int yet = 6; yet > 0 && up; yet--) {
                        up = hand.below(10) >= lift;
                    }
                    down += up ? 0 : 1;
                }
                due("lift " + lift + ", SEED " + seed, x.afternoons(seed, 20, 6, 0), 100 * down);
                due("lift " + lift + ", SEED " + seed + ", torn", x.afternoons(seed, 20, 6, 1), 0);
                due("lift " + lift + ", SEED " + seed + ", stuck", x.afternoons(seed, 20, 6, 2), 0);
            }
        }
    }

    private static void drawsOfPulls() {
        of("of a PULL a DRAW below 10 is below run if it RUNS; else another one below tear if it TEARS");
        for (int run = 1; run <= 10; run++) {
            for (int tear = 0; tear <= 10; tear++) {
                ElmKite x = told(ONE + "run " + run + " ; tear " + tear + " ; thing p worth 3 stuck 0 frees 0 ;");
                int seed = SEEDS[(run + tear) % SEEDS.length];
                ByHand hand = new ByHand(seed);
                int down = 0;
                int torn = 0;
                for (int i = 0; i < 20; i++) {
                    for (int yet = 6; yet > 0; yet--) {
                        if (hand.below(10) < run) {
                            down++;
                            break;
                        }
                        if (hand.below(10) < tear) {
                            torn++;
                            break;
                        }
                    }
                }
                String law = "run " + run + ", tear " + tear;
                due(law + ": WORTH", x.afternoons(seed, 20, 6, 0), 100 * down + 60);
                due(law + ": torn", x.afternoons(seed, 20, 6, 1), torn);
                due(law + ": THINGS", x.afternoons(seed, 20, 6, 2), 0);
            }
        }
    }

    private static void drawsOfHardPulls() {
        of("each time the NEXT try (with so many yet ..)");
        for (int side = 0; side < 4; side++) {
            ElmKite x = told(ONE.replace("side east", "side " + SIDES[side])
                + "run (away = 0) * (2 + 4 * force) ; tear (away = 0) * 3 + (0 < away) * 10 ;");
            due("hard from " + SIDES[side], x.next(1, 1), 5 + side);
            for (int seed : SEEDS) {
                ByHand hand = new ByHand(seed);
                int down = 0;
                int torn = 0;
                for (int i = 0; i < 20; i++) {
                    for (int yet = 4; yet > 0; yet--) {
                        if (hand.below(10) < 6) {
                            down++;
                            break;
                        }
                        if (hand.below(10) < 3) {
                            torn++;
                            break;
                        }
                    }
                }
                due("hard from " + SIDES[side] + ", SEED " + seed, x.afternoons(seed, 20, 4, 0), 100 * down);
                due("hard from " + SIDES[side] + ", SEED " + seed + ", torn", x.afternoons(seed, 20, 4, 1), torn);
            }
        }
        // It bites: 2 tighter, and so 9 of ten the next time.
        ElmKite x = told(ONE + "run (tight = 2) * 9 ; tear 0 ;");
        due("hard from north", x.next(2, 1), 5);
        for (int seed : SEEDS) {
            ByHand hand = new ByHand(seed);
            int down = 0;
            for (int i = 0; i < 20; i++) {
                hand.below(10);
                hand.below(10);
                if (hand.below(10) < 9) {
                    down++;
                } else {
                    hand.below(10);
                }
            }
            due("2 tighter, SEED " + seed, x.afternoons(seed, 20, 2, 0), 100 * down);
        }
    }

    private static void drawsBehindSlack() {
        of("each time the NEXT try (with so many yet ..)");
        ElmKite x = told(ONE + "run (tight = 0) * (away < 2) * 6 ; tear (0 < tight) * 10 ; ");
        x.pull(3, false, BITES);
        due("SLACK", x.next(2, 1), 9);
        due("one try: none", x.afternoons(3, 20, 1, 0), 0);
        for (int seed : SEEDS) {
            ByHand hand = new ByHand(seed);
            int down = 0;
            for (int i = 0; i < 20; i++) {
                if (hand.below(10) < 6) {
                    down++;
                } else {
                    hand.below(10);
                }
            }
            due("SLACK draws nothing, SEED " + seed, x.afternoons(seed, 20, 2, 0), 100 * down);
        }
    }

    private static void drawsOfThrows() {
        of("of HURL one is below stuck if it STICKS, below stuck and frees together if it FREES");
        for (int stuck = 0; stuck <= 9; stuck++) {
            for (int frees = 1; stuck + frees <= 10; frees++) {
                ElmKite x = told(ONE + "run 0 ; tear 10 ; thing p worth 0 stuck " + stuck + " frees " + frees + " ;");
                int seed = SEEDS[(stuck + frees) % SEEDS.length];
                ByHand hand = new ByHand(seed);
                int down = 0;
                int up = 0;
                for (int i = 0; i < 20; i++) {
                    for (int yet = 6; yet > 0; yet--) {
                        long drawn = hand.below(10);
                        if (drawn < stuck) {
                            up++;
                            break;
                        }
                        if (drawn < stuck + frees) {
                            down++;
                            break;
                        }
                    }
                }
                String law = "stuck " + stuck + ", frees " + frees;
                due(law + ": WORTH", x.afternoons(seed, 20, 6, 0), 100 * down);
                due(law + ": torn", x.afternoons(seed, 20, 6, 1), 0);
                due(law + ": THINGS", x.afternoons(seed, 20, 6, 2), up);
            }
        }
    }

    private static void afternoonsAsManyAsTold() {
        of("AFTERNOONS by a SEED, so many (1 to 20), of so many tries each (1 to 6)");
        String[] strings = {"a", "a b", "a b c", "a b c d", "a b c d e", "a b c d e f"};
        for (int over = 1; over <= 6; over++) {
            ElmKite x = told(twigs(6, strings[over - 1]) + "run 10 ; thing p worth 1 stuck 0 frees 0 ; ");
            for (int tries = 1; tries <= 6; tries++) {
                due(over + " over, " + tries + " tries", x.afternoons(5, 1, tries, 0), tries < over ? 1 : 51);
            }
        }
        ElmKite x = told(twigs(1, "a") + "run 10 ; thing p worth 1 stuck 0 frees 0 ; ");
        for (int many = 1; many <= 20; many++) {
            due(many + " together", x.afternoons(5, many, 1, 0), 51 * many);
        }
        due("0 of them", x.afternoons(5, 0, 1, 0), -1);
        due("21 of them", x.afternoons(5, 21, 1, 0), -1);
        due("0 tries", x.afternoons(5, 1, 0, 0), -1);
        due("7 tries", x.afternoons(5, 1, 7, 0), -1);
        due("SEED -1", x.afternoons(-1, 1, 1, 0), -1);
        due("SEED 0", x.afternoons(0, 1, 1, 0), 51);
        due("SEED 9999", x.afternoons(9999, 1, 1, 0), 51);
        due("SEED 10000", x.afternoons(10000, 1, 1, 0), -1);
    }

    private static void afternoonsNoneMore() {
        of("none more once it is to stop, or the kite is not up");
        // With one try yet it stops at 1 tight; with two it would slacken first.
        ElmKite x = told(ONE + "run (tight = 0) * 5 ; tear (0 < tight) * 10 ; ");
        for (int seed : SEEDS) {
            ByHand hand = new ByHand(seed);
            int down = 0;
            for (int i = 0; i < 20; i++) {
                if (hand.below(10) < 5) {
                    down++;
                } else {
                    hand.below(10);
                }
            }
            due("it stops, SEED " + seed, x.afternoons(seed, 20, 2, 0), 100 * down);
            due("it stops, SEED " + seed + ", torn", x.afternoons(seed, 20, 2, 1), 0);
        }
        x = told(ONE + "run 5 ; tear 5 ; thing p worth 3 stuck 5 frees 5 ; ");
        x.pull(0, false, RUNS);
        due("down: WORTH", x.afternoons(5, 20, 6, 0), 2060);
        due("down: torn", x.afternoons(5, 20, 6, 1), 0);
        due("down: THINGS", x.afternoons(5, 20, 6, 2), 0);
        x.undo();
        x.pull(0, false, TEARS);
        due("torn: WORTH", x.afternoons(5, 20, 6, 0), 60);
        due("torn: THINGS", x.afternoons(5, 20, 6, 2), 0);
        due("nothing told: WORTH", new ElmKite().afternoons(5, 20, 6, 0), 0);
        due("nothing told: torn", new ElmKite().afternoons(5, 20, 6, 1), 0);
        due("nothing told: THINGS", new ElmKite().afternoons(5, 20, 6, 2), 0);
    }

    private static void afternoonsAllAsAhead() {
        of("from now on (all is as ahead then)");
        ElmKite x = told(twigs(3, "a b c") + "run 5 ; tear 2 ; lift 5 ; dew 1 ; wind east 2 2 ; " + things(4, 3, 4)
            + "thing s worth 500 stuck 1 frees 0 ; ");
        x.hour(1);
        x.pull(3, true, BITES);
        x.hurl(0, STICKS);
        int[] ahead = new int[13];
        for (int what = 0; what < 13; what++) {
            ahead[what] = x.count(what);
        }
        int[] told = new int[3];
        for (int what = 0; what < 3; what++) {
            told[what] = x.afternoons(42, 20, 6, what);
        }
        for (int what = 0; what < 3; what++) {
            due("again", x.afternoons(42, 20, 6, what), told[what]);
        }
        for (int what = 0; what < 13; what++) {
            due("count(" + what + ")", x.count(what), ahead[what]);
        }
        due("tight as ahead", x.twig(2, 4), 2);
        due("undo() as ahead", x.undo(), true);
        due("in the hand again", x.thing(0, 3), 1);
    }

    // ---- MARKS

    private static void marksHold() {
        of("MARKS 0 to 3 hold the string, what is tight, the hour, the wind, the kite, paper, THINGS, what is TOLD");
        ElmKite x = told(twigs(3, "a b c") + "run 5 ; tear 2 ; dew 1 ; wind east 2 2 ; " + things(4, 3, 4));
        for (int i = 0; i < 7; i++) {
            x.hour(2);
        }
        x.pull(3, true, RUNS);
        x.pull(3, true, BITES);
        x.hurl(1, STICKS);
        x.tell(1, true);
        due("mark(0, false)", x.mark(0, false), true);
        x.hour(3);
        x.tell(1, false);
        x.hurl(0, STICKS);
        x.slack();
        due("mark(3, false)", x.mark(3, false), true);
        x.pull(3, true, TEARS);
        x.hour(0);
        due("mark(0, true)", x.mark(0, true), true);
        int[] first = {3, 2, 2, 19, 2, 0, 1, 0, 0, 1, 0, 0, 1};
        for (int what = 0; what < 13; what++) {
            due("on 0: count(" + what + ")", x.count(what), first[what]);
        }
        due("on 0: tight", x.twig(1, 4), 2);
        due("on 0: the string", x.twig(2, 5), 0);
        due("on 0: THINGS", x.thing(0, 3), 1);
        due("on 0: THINGS", x.thing(1, 3), 0);
        due("mark(3, true)", x.mark(3, true), true);
        int[] last = {3, 2, 2, 20, 3, 0, 0, 0, 0, 2, 0, 0, 0};
        for (int what = 0; what < 13; what++) {
            due("on 3: count(" + what + ")", x.count(what), last[what]);
        }
        due("on 3: tight", x.twig(1, 4), 1);
        x.pull(3, true, TEARS);
        due("mark(1, false)", x.mark(1, false), true);
        x.mark(0, true);
        x.mark(1, true);
        due("torn on 1", x.count(5), 2);
        due("torn on 1: over none", x.count(2), 0);
        of("MARKS .. hold .. what is TOLD");
        for (int side = 0; side < 4; side++) {
            for (int ran = 0; ran < 2; ran++) {
                for (int many = 0; many <= 12; many += 3) {
                    x = told("twig a high 9 thick 9 side east ; twig b high 9 thick 9 side west ; run 6 - 2 * away ;");
                    ElmKite y = told("twig a high 9 thick 9 side east ; twig b high 9 thick 9 side west ; run 6 - 2 * away ;");
                    for (int i = 0; i < many; i++) {
                        x.tell(side, ran == 1);
                        y.tell(side, ran == 1);
                    }
                    x.mark(2, false);
                    x.tell((side + 1) % 4, ran == 0);
                    x.mark(2, true);
                    due("count(9)", x.count(9), many);
                    due("likely(0)", x.likely(0), y.likely(0));
                    due("likely(1)", x.likely(1), y.likely(1));
                    due("tells()", x.tells(), y.tells());
                    due("one more", x.tell(side, ran == 1), many < 12);
                }
            }
        }
    }

    private static void marksFour() {
        of("MARKS 0 to 3");
        ElmKite x = told(ONE);
        due("mark(-1, false)", x.mark(-1, false), false);
        due("mark(4, false)", x.mark(4, false), false);
        for (int mark = 0; mark < 4; mark++) {
            due("nothing is on it: mark(" + mark + ", true)", x.mark(mark, true), false);
            x.hour(0);
            due("mark(" + mark + ", false)", x.mark(mark, false), true);
        }
        for (int mark = 0; mark < 4; mark++) {
            due("mark(" + mark + ", true)", x.mark(mark, true), true);
            due("each its own hour", x.count(3), 13 + mark);
        }
        due("mark(-1, true)", x.mark(-1, true), false);
        due("mark(4, true)", x.mark(4, true), false);
        x.hour(0);
        due("laid again", x.mark(1, false), true);
        x.hour(0);
        due("mark(1, true)", x.mark(1, true), true);
        due("as it was laid again", x.count(3), 17);
        due("mark(1, true), again", x.mark(1, true), true);
        due("at first: mark(0, true)", new ElmKite().mark(0, true), false);
        due("at first: mark(0, false)", new ElmKite().mark(0, false), true);
    }

    private static void marksNothingUndone() {
        of("(nothing can be undone when one is gone back to)");
        ElmKite x = told(ONE);
        x.hour(0);
        x.mark(2, false);
        due("laid: it can be undone yet", x.count(10), 1);
        x.mark(1, true);
        due("nothing is on it: it can be undone yet", x.count(10), 1);
        for (int i = 0; i < 16; i++) {
            x.hour(1);
        }
        due("16", x.count(10), 16);
        due("mark(2, true)", x.mark(2, true), true);
        due("count(10)", x.count(10), 0);
        due("undo()", x.undo(), false);
        due("the hour", x.count(3), 13);
        x.hour(1);
        due("one more can", x.undo(), true);
        due("the hour", x.count(3), 13);
        due("no more", x.undo(), false);
    }
}
