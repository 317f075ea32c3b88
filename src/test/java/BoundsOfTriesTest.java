/** Terms 2: each sentence that names a bound, at it, one below it and one above it. */
public final class BoundsOfTriesTest {
    private static final int RUNS = 0;
    private static final int BITES = 1;
    private static final int TEARS = 2;
    private static final int DOWN = 0;
    private static final int STICKS = 1;
    private static final int FREES = 2;
    private static final String[] SIDES = {"north", "east", "south", "west"};
    private static final String ONE = "twig a high 9 thick 9 side east ; string a ; ";
    private static final String TWO = "twig a high 9 thick 9 side east ; twig b high 9 thick 9 side east ; string a b ; ";
    private static final String THREE = "twig a high 9 thick 12 side north ; twig b high 9 thick 12 side east ; "
        + "twig c high 9 thick 12 side west ; string a b c ; ";
    private static final String THING = "thing p worth 3 stuck 2 frees 3 ; ";

    private static final Checks CHECKS = new Checks();

    private BoundsOfTriesTest() {
    }

    public static void main(String[] args) {
        lastTwig();
        overNoneAnyMore();
        notOverNone();
        whileItIsUp();
        pullRuns();
        pullTears();
        pullBoth();
        tornAndDown();
        bites();
        slack();
        lifts();
        liftsBySide();
        hurlFromTheHand();
        hurlByItsChances();
        climb();
        climbAllItIsOn();
        climbOverIt();
        poke();
        pokeLikewise();
        hourComesRound();
        hourOfDew();
        dewOfAKiteThatIsUp();
        worth();
        byHandAboveZero();
        undoSixteen();
        undoEach();
        judgedLines();
        judgedFromHourTwelve();
        judgedLeftOut();
        judgedSoftAndHard();
        CHECKS.end("BoundsOfTriesTest");
    }

    private static void of(String sentence) {
        CHECKS.of(sentence);
    }

    private static void due(String call, long got, long want) {
        CHECKS.due(call, got, want);
    }

    private static void due(String call, boolean got, boolean want) {
        CHECKS.due(call, got, want);
    }

    private static ElmKite told(String text) {
        return Feeding.told(text);
    }

    private static void hours(ElmKite x, int many) {
        for (int i = 0; i < many; i++) {
            x.hour(0);
        }
    }

    private static void lastTwig() {
        of("The LAST TWIG is the one the string goes over that is the nearest to the hand");
        StringBuilder six = new StringBuilder();
        for (int i = 0; i < 6; i++) {
            six.append("twig ").append((char) ('a' + i)).append(" high 9 thick ").append(i + 1).append(" side east ; ");
        }
        ElmKite x = told(six + "string f a e b d c ; run size ;");
        int[] size = {3, 4, 2, 5, 1, 6};
        for (int i = 0; i < 6; i++) {
            due("how thick the LAST one of " + (6 - i) + " is", x.chance(0, false, 0), size[i]);
            due("pull", x.pull(0, false, RUNS), 5 - i);
        }
    }

    private static void overNoneAnyMore() {
        of("If the string goes over none any more, the kite is down");
        String one = ONE + THING + "lift 1 ; wind east 0 0 ; weighs 9 ; ladder 9 pole 0 ; ";
        ElmKite x = told(one);
        due("it runs off", x.pull(1, false, RUNS), 0);
        due("count(5)", x.count(5), 1);
        x = told(one);
        due("it lifts", x.lifts(), true);
        due("count(5)", x.count(5), 1);
        x = told(one);
        due("it frees", x.hurl(0, FREES), 0);
        due("count(5)", x.count(5), 1);
        x = told(one);
        due("climb", x.climb(0, false), true);
        due("count(5)", x.count(5), 1);
        x = told(one);
        due("poke", x.climb(0, true), true);
        due("count(5)", x.count(5), 1);
        due("count(2)", x.count(2), 0);
        due("twig(0, 5)", x.twig(0, 5), 0);
    }

    private static void notOverNone() {
        of("If the string goes over none any more, the kite is down");
        String two = TWO + THING + "lift 1 ; wind east 0 0 ; weighs 9 ; ladder 9 pole 0 ; ";
        ElmKite x = told(two);
        due("it runs off", x.pull(1, false, RUNS), 1);
        due("over one yet: count(5)", x.count(5), 0);
        x = told(two);
        due("it lifts", x.lifts(), true);
        due("over one yet: count(5)", x.count(5), 0);
        x = told(two);
        due("it frees", x.hurl(0, FREES), 1);
        due("over one yet: count(5)", x.count(5), 0);
        x = told(two);
        due("climb", x.climb(0, false), true);
        due("over one yet: count(5)", x.count(5), 0);
        x = told(two);
        due("poke", x.climb(0, true), true);
        due("over one yet: count(5)", x.count(5), 0);
        due("count(2)", x.count(2), 1);
    }

    /** No try can be. */
    private static void noTry(String how, ElmKite x) {
        int undone = x.count(10);
        for (int side = 0; side < 4; side++) {
            for (int end = 0; end < 3; end++) {
                due(how + ": pull soft", x.pull(side, false, end), -1);
                due(how + ": pull hard", x.pull(side, true, end), -1);
            }
            due(how + ": chance of running", x.chance(side, false, 0), -1);
            due(how + ": chance of tearing", x.chance(side, true, 1), -1);
        }
        due(how + ": slack()", x.slack(), -1);
        due(how + ": lifts()", x.lifts(), false);
        for (int end = 0; end < 3; end++) {
            due(how + ": hurl", x.hurl(0, end), -1);
        }
        due(how + ": climb", x.climb(0, false), false);
        due(how + ": poke", x.climb(0, true), false);
        due(how + ": nothing was done", x.count(10), undone);
        due(how + ": an hour always can", x.hour(1), 13);
    }

    private static void whileItIsUp() {
        of("While it is up");
        String one = ONE + THING + "lift 10 ; wind east 0 0 ; weighs 1 ; ladder 60 pole 60 ; run 5 ; tear 5 ; ";
        ElmKite x = told(one);
        due("up: pull", x.pull(1, false, RUNS), 0);
        noTry("down", x);
        x = told(one);
        due("up: pull", x.pull(1, false, TEARS), 0);
        noTry("torn", x);
        noTry("no string", told(one.replace("string a ; ", "")));
        noTry("nothing told", new ElmKite());
    }

    private static String reckoned(int number) {
        return number < 0 ? "0 - " + -number : "" + number;
    }

    private static void pullRuns() {
        of("it RUNS off the LAST one by so many of ten as run tells (0 to 10)");
        for (int run = -2; run <= 12; run++) {
            ElmKite x = told(ONE + "run " + reckoned(run) + " ; tear 0 ; ");
            due("run " + run + ": chance", x.chance(0, false, 0), Math.max(0, Math.min(10, run)));
            due("run " + run + ": it tears", x.pull(0, false, TEARS), -1);
            due("run " + run + ": it bites", x.pull(0, false, BITES), run < 10 ? 1 : -1);
            due("run " + run + ": it runs", x.pull(0, false, RUNS), run > 0 ? 0 : -1);
        }
        due("run 10000000", told(ONE + "run 5000 * 2000 ;").chance(0, true, 0), 10);
        due("run -10000000", told(ONE + "run 0 - 5000 * 2000 ;").chance(0, true, 0), 0);
    }

    private static void pullTears() {
        of("else it TEARS by so many of ten as tear tells (0 to 10)");
        for (int tear = -2; tear <= 12; tear++) {
            ElmKite x = told(ONE + "run 0 ; tear " + reckoned(tear) + " ; ");
            due("tear " + tear + ": chance", x.chance(0, false, 1), Math.max(0, Math.min(10, tear)));
            due("tear " + tear + ": it runs", x.pull(0, false, RUNS), -1);
            due("tear " + tear + ": it bites", x.pull(0, false, BITES), tear < 10 ? 1 : -1);
            due("tear " + tear + ": it tears", x.pull(0, false, TEARS), tear > 0 ? 0 : -1);
        }
        due("tear 10000000", told(ONE + "tear 5000 * 2000 ;").chance(0, true, 1), 10);
        due("tear -10000000", told(ONE + "tear 0 - 5000 * 2000 ;").chance(0, true, 1), 0);
    }

    private static void pullBoth() {
        of("it RUNS ..; else it TEARS ..; else it BITES");
        int[] some = {0, 1, 9, 10};
        for (int run : some) {
            for (int tear : some) {
                String law = ONE + "run " + run + " ; tear " + tear + " ; ";
                due(law + "it runs", told(law).pull(2, true, RUNS), run > 0 ? 0 : -1);
                due(law + "it bites", told(law).pull(2, true, BITES), run < 10 && tear < 10 ? 1 : -1);
                due(law + "it tears", told(law).pull(2, true, TEARS), run < 10 && tear > 0 ? 0 : -1);
                // So many of ten of what doesn't run.
                due(law + "chance of tearing", told(law).chance(2, true, 1), tear);
            }
        }
    }

    private static void tornAndDown() {
        of("the kite is torn, the string down");
        ElmKite x = told(THREE + "kite worth 5 paper 3 ; run 0 ; tear 1 ;");
        x.pull(0, true, BITES);
        due("it tears", x.pull(0, true, TEARS), 0);
        due("count(5)", x.count(5), 2);
        due("count(2)", x.count(2), 0);
        for (int twig = 0; twig < 3; twig++) {
            due("twig(" + twig + ", 5)", x.twig(twig, 5), 0);
            due("twig(" + twig + ", 4)", x.twig(twig, 4), 0);
        }
        due("worth()", x.worth(), 0);
        due("undo()", x.undo(), true);
        due("it is up again", x.count(5), 0);
        due("over three again", x.count(2), 3);
        due("tight again", x.twig(2, 4), 2);
    }

    private static void bites() {
        of("else it BITES: the LAST one is 1 tighter (hard: 2), 9 at most");
        ElmKite x = told(TWO + "run 0 ; tear 0 ;");
        for (int tight = 1; tight <= 11; tight++) {
            due("soft " + tight, x.pull(0, false, BITES), 2);
            due("tight", x.twig(1, 4), Math.min(9, tight));
            due("the other one", x.twig(0, 4), 0);
        }
        x = told(TWO + "run 0 ; tear 0 ;");
        for (int times = 1; times <= 6; times++) {
            due("hard " + times, x.pull(0, true, BITES), 2);
            due("tight", x.twig(1, 4), Math.min(9, 2 * times));
        }
        due("at 9 it can be undone, too", x.count(10), 6);
        x = told(TWO + "run 0 ; tear 0 ;");
        x.pull(0, false, BITES);
        for (int times = 1; times <= 4; times++) {
            x.pull(0, true, BITES);
            due("tight by 1 and " + times + " times 2", x.twig(1, 4), 1 + 2 * times);
        }
    }

    private static void slack() {
        of("SLACK: the LAST one is 1 looser, if it is tight");
        ElmKite x = told(TWO + "run 0 ; tear 0 ;");
        due("loose", x.slack(), -1);
        due("nothing was done", x.count(10), 0);
        x.pull(0, false, BITES);
        due("tight 1", x.slack(), 0);
        due("loose again", x.slack(), -1);
        for (int i = 0; i < 5; i++) {
            x.pull(0, true, BITES);
        }
        for (int tight = 8; tight >= 0; tight--) {
            due("tight " + (tight + 1), x.slack(), tight);
            due("twig(1, 4)", x.twig(1, 4), tight);
        }
        due("loose", x.slack(), -1);
        x = told(TWO + "tear 0 ;");
        x.pull(3, false, BITES);
        due("it runs", x.pull(1, false, RUNS), 1);
        due("the next one is loose", x.slack(), -1);
    }

    private static void lifts() {
        of("It LIFTS if the wind comes from the LAST one's side, it is not tight, and lift is not 0: the string is off it");
        String two = TWO + "run 0 ; tear 0 ; wind east 0 0 ; ";
        due("lift 0", told(two + "lift 0 ;").lifts(), false);
        due("lift 1", told(two + "lift 1 ;").lifts(), true);
        due("lift 10", told(two + "lift 10 ;").lifts(), true);
        due("no lift told", told(two).lifts(), false);
        ElmKite x = told(two + "lift 1 ;");
        x.pull(0, false, BITES);
        due("tight 1", x.lifts(), false);
        due("over two yet", x.count(2), 2);
        x.slack();
        due("loose", x.lifts(), true);
        due("it is off the LAST one", x.twig(1, 5), 0);
        due("over the other one", x.twig(0, 5), 1);
        due("it lifts off this one", x.lifts(), true);
        due("down", x.count(5), 1);
    }

    private static void liftsBySide() {
        of("It LIFTS if the wind comes from the LAST one's side");
        for (int side = 0; side < 4; side++) {
            for (int wind = 0; wind < 4; wind++) {
                String text = "twig a high 9 thick 9 side " + SIDES[side] + " ; string a ; lift 1 ; ";
                due(text + "wind " + SIDES[wind], told(text + "wind " + SIDES[wind] + " 0 0 ;").lifts(), side == wind);
                ElmKite x = told(text + "wind " + SIDES[(side + 1) % 4] + " 0 0 ;");
                x.hour(wind);
                due(text + "an hour on from " + SIDES[wind], x.lifts(), side == wind);
            }
        }
    }

    private static void hurlFromTheHand() {
        of("HURL a THING from the hand");
        ElmKite x = told(TWO + THING + "thing q worth 1 stuck 2 frees 3 ; ");
        due("in the hand", x.hurl(0, DOWN), 2);
        due("in the hand again", x.hurl(0, STICKS), 2);
        for (int end = 0; end < 3; end++) {
            due("up there", x.hurl(0, end), -1);
        }
        due("the other one", x.hurl(1, STICKS), 2);
        due("count(12)", x.count(12), 0);
        due("up there", x.hurl(1, FREES), -1);
        x.undo();
        due("in the hand again", x.hurl(1, FREES), 1);
    }

    private static void hurlByItsChances() {
        of("it comes DOWN again, STICKS up there, or FREES the LAST one of the string and comes down, by its chances");
        for (int stuck = 0; stuck <= 10; stuck++) {
            for (int frees = 0; stuck + frees <= 10; frees++) {
                String text = TWO + "thing p worth 3 stuck " + stuck + " frees " + frees + " ; ";
                ElmKite x = told(text);
                due(text + "DOWN", x.hurl(0, DOWN), stuck + frees < 10 ? 2 : -1);
                due(text + "in the hand", x.thing(0, 3), 1);
                due(text + "FREES", x.hurl(0, FREES), frees > 0 ? 1 : -1);
                due(text + "in the hand", x.thing(0, 3), 1);
                due(text + "off the LAST one", x.twig(1, 5), frees > 0 ? 0 : 1);
                due(text + "STICKS", x.hurl(0, STICKS), stuck > 0 ? frees > 0 ? 1 : 2 : -1);
                due(text + "in the hand", x.thing(0, 3), stuck > 0 ? 0 : 1);
            }
        }
        ElmKite x = told(TWO + THING + "tear 0 ;");
        x.pull(3, true, BITES);
        due("DOWN: it stays tight", x.hurl(0, DOWN) * 10 + x.twig(1, 4), 22);
        due("FREES a tight one", x.hurl(0, FREES), 1);
        due("the next one is loose", x.twig(0, 4), 0);
    }

    private static void climb() {
        of("CLIMB ..: if it .. no less thick than one weighs");
        int[] thick = {1, 2, 9, 10, 11, 19, 20};
        for (int i = 0; i < thick.length; i++) {
            for (int more = -1; more <= 1; more++) {
                int weighs = thick[i] + more;
                if (weighs >= 1) {
                    ElmKite x = told("twig a high 60 thick " + thick[i] + " side east ; string a ; weighs " + weighs + " ;");
                    due("thick " + thick[i] + ", weighs " + weighs, x.climb(0, false), more <= 0);
                    due("off it", x.count(2), more <= 0 ? 0 : 1);
                }
            }
        }
        due("weighs 99", told("twig a high 1 thick 20 side east ; string a ; weighs 99 ;").climb(0, false), false);
    }

    private static void climbAllItIsOn() {
        of("CLIMB ..: if it and all it is on are no less thick than one weighs");
        for (int thin = 0; thin < 8; thin++) {
            StringBuilder text = new StringBuilder();
            for (int i = 0; i < 8; i++) {
                text.append("twig ").append((char) ('a' + i)).append(" high 9 thick ").append(i == thin ? 9 : 10)
                    .append(" side east").append(i == 0 ? "" : " on " + (char) ('a' + i - 1)).append(" ; ");
            }
            for (int twig = 0; twig < 8; twig++) {
                String string = "string " + (char) ('a' + twig) + " ; ";
                due(thin + " is thin: climb(" + twig + ")", told(text + string).climb(twig, false), twig < thin);
                due("weighs 9: climb(" + twig + ")", told(text + string + "weighs 9 ;").climb(twig, false), true);
            }
        }
        // Another one beside it doesn't count, nor does one that is on it.
        String text = "twig a high 9 thick 10 side east ; twig b high 9 thick 9 side east on a ; string a ; ";
        due("what is on it is thin", told(text).climb(0, false), true);
    }

    private static void climbOverIt() {
        of("CLIMB to a TWIG the string goes over ..: the string is off it");
        ElmKite x = told("twig d high 9 thick 12 side east ; " + THREE + "tear 0 ;");
        due("not over it", x.climb(0, false), false);
        x.pull(1, true, BITES);
        due("the middle one", x.climb(2, false), true);
        due("off it", x.twig(2, 5), 0);
        due("over two", x.count(2), 2);
        due("the LAST one stays tight", x.twig(3, 4), 2);
        due("off it already", x.climb(2, false), false);
        due("off it already: poke", x.climb(2, true), false);
        due("the first one", x.climb(1, false), true);
        due("over one", x.count(2), 1);
        due("the LAST one", x.climb(3, false), true);
        due("down", x.count(5), 1);
        x = told(THREE + "tear 0 ;");
        x.pull(1, true, BITES);
        due("the LAST one", x.climb(2, false), true);
        due("the next one is loose", x.twig(1, 4), 0);
        due("it runs off the next one by 10", x.chance(1, false, 0), 10);
    }

    private static void poke() {
        of("POKE ..: if it is no higher than ladder and pole together");
        int[][] both = {{0, 0}, {1, 0}, {0, 1}, {10, 10}, {20, 0}, {0, 20}, {29, 30}, {59, 0}, {0, 59}};
        for (int i = 0; i < both.length; i++) {
            int reach = both[i][0] + both[i][1];
            for (int high = Math.max(1, reach - 1); high <= reach + 1; high++) {
                String text = "twig a high " + high + " thick 9 side east ; string a ; ladder " + both[i][0] + " pole "
                    + both[i][1] + " ; ";
                due(text, told(text).climb(0, true), high <= reach);
            }
        }
        due("60 and 60", told("twig a high 60 thick 9 side east ; string a ; ladder 60 pole 60 ;").climb(0, true), true);
        due("none told", told("twig a high 1 thick 9 side east ; string a ;").climb(0, true), false);
    }

    private static void pokeLikewise() {
        of("POKE one likewise");
        ElmKite x = told("twig d high 9 thick 1 side east ; twig a high 9 thick 1 side east on d ; "
            + "twig b high 9 thick 1 side east on a ; string a b ; ladder 5 pole 4 ; tear 0 ; ");
        due("how thick it is doesn't count", x.climb(1, false), false);
        x.pull(3, false, BITES);
        due("not over it", x.climb(0, true), false);
        due("the first one", x.climb(1, true), true);
        due("the LAST one stays tight", x.twig(2, 4), 1);
        due("off it already", x.climb(1, true), false);
        due("the LAST one", x.climb(2, true), true);
        due("down", x.count(5), 1);
    }

    private static void hourComesRound() {
        of("HOUR: the next one (behind 23 0)");
        ElmKite x = told(ONE);
        for (int hour = 13; hour < 24; hour++) {
            due("hour(0)", x.hour(0), hour);
        }
        for (int day = 0; day < 3; day++) {
            for (int hour = 0; hour < 24; hour++) {
                due("hour(0)", x.hour(0), hour);
                due("count(3)", x.count(3), hour);
            }
        }
        for (int side = 0; side < 4; side++) {
            x.hour(side);
            due("the wind comes from there then", x.count(4), side);
        }
    }

    private static void hourOfDew() {
        of("from 20 on to ahead of 6 the paper of a kite that is up has dew less (0 at least) as such an hour begins");
        ElmKite x = told(ONE + "kite worth 1 paper 99 ; dew 1 ;");
        int paper = 99;
        for (int hours = 1; hours <= 72; hours++) {
            int hour = x.hour(0);
            paper -= hour >= 20 || hour < 6 ? 1 : 0;
            due("paper as " + hour + " begins", x.count(6), paper);
        }
        x = told(ONE + "kite worth 1 paper 6 ; dew 3 ;");
        hours(x, 7);
        due("19", x.count(3), 19);
        due("ahead of 20", x.count(6), 6);
        x.hour(0);
        due("at 20", x.count(6), 3);
        x.hour(0);
        due("at 21", x.count(6), 0);
        x.hour(0);
        due("at 22", x.count(6), 0);
        for (int left = 7; left <= 11; left++) {
            x = told(ONE + "kite worth 1 paper " + left + " ; dew 9 ;");
            hours(x, 8);
            due("paper " + left + ", dew 9", x.count(6), Math.max(0, left - 9));
        }
        x = told(ONE + "kite worth 1 paper 9 ;");
        hours(x, 24);
        due("no dew told", x.count(6), 9);
        x = told(ONE + "kite worth 1 paper 0 ; dew 9 ;");
        hours(x, 12);
        due("paper 0", x.count(6), 0);
    }

    private static void dewOfAKiteThatIsUp() {
        of("the paper of a kite that is up has dew less");
        ElmKite x = told(ONE + "kite worth 1 paper 9 ; dew 1 ; run 5 ; tear 5 ; ");
        hours(x, 9);
        due("up", x.count(6), 7);
        x.pull(0, false, RUNS);
        hours(x, 24);
        due("down", x.count(6), 7);
        x = told(ONE + "kite worth 1 paper 9 ; dew 1 ; run 5 ; tear 5 ; ");
        hours(x, 9);
        x.pull(0, false, TEARS);
        hours(x, 24);
        due("torn", x.count(6), 7);
        x = told("kite worth 1 paper 9 ; dew 1 ;");
        hours(x, 24);
        due("no string", x.count(6), 9);
    }

    private static void worth() {
        of("The kite is WORTH its worth if it is down and the paper is not 0; a THING in the hand its own");
        due("down, paper 0", told("kite worth 7 paper 0 ;").worth(), 0);
        due("down, paper 1", told("kite worth 7 paper 1 ;").worth(), 7);
        due("down, paper 99", told("kite worth 7 paper 99 ;").worth(), 7);
        due("up, paper 99", told(ONE + "kite worth 7 paper 99 ;").worth(), 0);
        ElmKite x = told(ONE + "kite worth 7 paper 9 ; tear 5 ; " + THING + "thing q worth 100 stuck 1 frees 0 ;");
        due("in the hand", x.worth(), 103);
        x.hurl(1, STICKS);
        due("one up there", x.worth(), 3);
        x.hurl(0, STICKS);
        due("both up there", x.worth(), 0);
        x.pull(0, false, TEARS);
        due("torn", x.worth(), 0);
        x.undo();
        x.pull(1, false, RUNS);
        due("down", x.worth(), 7);
        x = told(ONE + "kite worth 7 paper 2 ; dew 2 ; run 5 ;");
        hours(x, 8);
        x.pull(1, false, RUNS);
        due("wet through, down", x.worth(), 0);
        x = told(ONE + "kite worth 7 paper 3 ; dew 2 ; run 5 ;");
        hours(x, 8);
        x.pull(1, false, RUNS);
        due("1 yet, down", x.worth(), 7);
        StringBuilder four = new StringBuilder("kite worth 999 paper 1 ;");
        for (char name = 'p'; name < 't'; name++) {
            four.append("thing ").append(name).append(" worth 999 stuck 0 frees 0 ;");
        }
        due("the most there can be", told(four.toString()).worth(), 4995);
    }

    private static void byHandAboveZero() {
        of("By hand each end that has a chance above 0 can be told (of an HOUR any side, whatever its chance)");
        due("1 of ten", told(ONE + "run 1 ; tear 10 ;").pull(0, false, RUNS), 0);
        due("0 of ten", told(ONE + "run 0 ; tear 10 ;").pull(0, false, RUNS), -1);
        due("1 of ten of 1 of ten", told(ONE + "run 9 ; tear 1 ;").pull(0, false, TEARS), 0);
        due("1 of ten of 9 of ten", told(ONE + "run 9 ; tear 9 ;").pull(0, false, BITES), 1);
        due("none of 1 of ten", told(ONE + "run 9 ; tear 0 ;").pull(0, false, TEARS), -1);
        ElmKite x = told("wind north 0 0 ;");
        for (int side = 0; side < 4; side++) {
            due("the wind never turns: hour(" + side + ")", x.hour(side), 13 + side);
            due("count(4)", x.count(4), side);
        }
    }

    private static void undoSixteen() {
        of("UNDO: tries, hours, the last 16, one by one");
        for (int many = 0; many <= 18; many++) {
            ElmKite x = told(ONE);
            hours(x, many);
            int can = Math.min(16, many);
            due(many + " hours: count(10)", x.count(10), can);
            for (int i = 1; i <= can; i++) {
                due(many + " hours: undo() " + i, x.undo(), true);
                due(many + " hours: the hour", x.count(3), (12 + many - i) % 24);
                due(many + " hours: count(10)", x.count(10), can - i);
            }
            due(many + " hours: no more", x.undo(), false);
            due(many + " hours: the hour", x.count(3), (12 + many - can) % 24);
        }
        ElmKite x = told(ONE);
        hours(x, 40);
        x.undo();
        x.undo();
        due("two less", x.count(10), 14);
        hours(x, 2);
        due("two more", x.count(10), 16);
        hours(x, 1);
        due("one more", x.count(10), 16);
        for (int i = 0; i < 16; i++) {
            due("undo()", x.undo(), true);
        }
        due("41 hours, 16 undone", x.count(3), (12 + 25) % 24);
        due("no more", x.undo(), false);
    }

    /** Answers how it stands as one text. */
    private static String standing(ElmKite x) {
        StringBuilder all = new StringBuilder();
        int[] whats = {2, 3, 4, 5, 6, 12};
        for (int what : whats) {
            all.append(x.count(what)).append(' ');
        }
        for (int twig = 0; twig < 3; twig++) {
            all.append(x.twig(twig, 4)).append(x.twig(twig, 5)).append(' ');
        }
        return all.append(x.worth()).toString();
    }

    private static void undoneAgain(String what, ElmKite x, String ahead, int many) {
        due(what + ": count(10)", x.count(10), many);
        due(what + ": something changed", standing(x).equals(ahead), false);
        due(what + ": undo()", x.undo(), true);
        due(what + ": undone: " + standing(x), standing(x).equals(ahead), true);
        due(what + ": count(10)", x.count(10), many - 1);
    }

    private static void undoEach() {
        of("UNDO: tries, hours .. one by one");
        ElmKite x = told(THREE + THING + "run 5 ; tear 5 ; lift 5 ; wind west 0 0 ; ladder 9 pole 0 ; kite worth 5 paper 9 ; dew 1 ; ");
        x.pull(0, true, BITES);
        String ahead = standing(x);
        x.pull(0, false, RUNS);
        undoneAgain("it runs", x, ahead, 2);
        x.pull(0, false, BITES);
        undoneAgain("it bites", x, ahead, 2);
        x.pull(0, false, TEARS);
        undoneAgain("it tears", x, ahead, 2);
        x.slack();
        undoneAgain("slack", x, ahead, 2);
        x.hurl(0, STICKS);
        undoneAgain("it sticks", x, ahead, 2);
        x.hurl(0, FREES);
        undoneAgain("it frees", x, ahead, 2);
        x.climb(1, false);
        undoneAgain("climb", x, ahead, 2);
        x.climb(2, true);
        undoneAgain("poke", x, ahead, 2);
        x.hour(2);
        undoneAgain("an hour", x, ahead, 2);
        x.hurl(0, DOWN);
        due("a throw that comes down is a try", x.count(10), 2);
        due("undo()", x.undo(), true);
        x.slack();
        x.slack();
        ahead = standing(x);
        due("lifts()", x.lifts(), true);
        undoneAgain("it lifts", x, ahead, 4);
        hours(x, 9);
        due("two hours of dew", x.count(6), 7);
        for (int paper = 8; paper <= 9; paper++) {
            due("undo()", x.undo(), true);
            due("the paper is as ahead", x.count(6), paper);
        }
        for (int i = 0; i < 7; i++) {
            x.undo();
        }
        due("what can't be is none", x.slack(), -1);
        due("what can't be is none", x.hour(4), -1);
        due("count(10)", x.count(10), 3);
        x.tell(0, true);
        x.mark(0, false);
        due("what is TOLD, a MARK are none", x.count(10), 3);
    }

    private static void judgedLines() {
        of("JUDGED: .. the first line (from 0) that can't be (hours always can)");
        String tree = ONE + "tear 0 ; kite worth 5 paper 9 ; ";
        ElmKite x = told(tree);
        due("no line", x.judged(0), -1);
        for (int line = 0; line < 24; line++) {
            Feeding.afternoon(x, "hour west ;".repeat(line) + "slack ;" + "slack ;".repeat(23 - line));
            due("line " + line + " can't be", x.judged(0), line);
            Feeding.afternoon(x, "hour west ;".repeat(line) + "slack ;" + "hour north ;".repeat(23 - line));
            due("line " + line + " alone can't be", x.judged(0), line);
        }
        Feeding.afternoon(x, "hour west ;".repeat(24));
        due("all can", x.judged(0), -1);
        Feeding.afternoon(x, "pull east soft runs ; hour west ; hour east ;");
        due("down, hours can", x.judged(0), -1);
        Feeding.afternoon(x, "pull east soft runs ; hour west ; pull east soft runs ;");
        due("down, a pull can't", x.judged(0), 2);
    }

    private static void judgedFromHourTwelve() {
        of("JUDGED: the AFTERNOON from hour 12, all as at first");
        ElmKite x = told(TWO + THING + "tear 5 ; kite worth 50 paper 2 ; dew 1 ; lift 1 ; wind north 0 0 ; ");
        hours(x, 20);
        x.hurl(0, STICKS);
        x.pull(0, true, TEARS);
        due("ahead: worth()", x.worth(), 0);
        due("no line: judged(1)", x.judged(1), 3);
        Feeding.afternoon(x, "hour east ;".repeat(8) + "lifts ; hour east ; lifts ; hurl p sticks ;");
        due("at 20 1 less, at 21 0: judged(0)", x.judged(0), 11);
        due("wet through: judged(1)", x.judged(1), 3);
        Feeding.afternoon(x, "hour east ;".repeat(8) + "lifts ; lifts ; hour north ; hour north ;");
        due("at 20 1 less: judged(0)", x.judged(0), -1);
        due("at 20 1 less: judged(1)", x.judged(1), 53);
        due("it stands as ahead: torn", x.count(5), 2);
        due("it stands as ahead: hour", x.count(3), 8);
        due("it stands as ahead: count(12)", x.count(12), 0);
        due("it stands as ahead: count(10)", x.count(10), 16);
        Feeding.afternoon(x, "lifts ;");
        due("the wind as told", x.judged(0), 0);
    }

    private static void judgedLeftOut() {
        of("lines that can't be are left out; what is WORTH in all at last");
        ElmKite x = told(TWO + THING + "tear 5 ; kite worth 50 paper 2 ; ");
        Feeding.afternoon(x, "slack ; pull east soft runs ; hurl p sticks ; hurl p sticks ; pull east soft runs ; pull east soft runs ;");
        due("judged(0)", x.judged(0), 0);
        due("judged(1)", x.judged(1), 50);
        Feeding.afternoon(x, "pull east soft runs ; pull east soft tears ; hurl p frees ;");
        due("it always runs: judged(0)", x.judged(0), 1);
        due("judged(1)", x.judged(1), 53);
        Feeding.afternoon(x, "pull north soft tears ; hurl p sticks ; pull east soft runs ;");
        due("torn: judged(0)", x.judged(0), 1);
        due("torn: judged(1)", x.judged(1), 3);
        Feeding.afternoon(x, "climb a ; poke b ; lifts ; pull east hard bites ; hurl p sticks ;");
        due("only the last one can: judged(0)", x.judged(0), 0);
        due("only the last one can: judged(1)", x.judged(1), 0);
    }

    private static void judgedSoftAndHard() {
        of("JUDGED: the AFTERNOON ..: the first line (from 0) that can't be");
        ElmKite x = told(ONE + "run (tight = 2) * 5 ; tear force * 10 ; kite worth 50 paper 2 ; ");
        Feeding.afternoon(x, "pull west hard tears ;");
        due("hard tears", x.judged(0), -1);
        Feeding.afternoon(x, "pull west soft tears ;");
        due("soft tears", x.judged(0), 0);
        Feeding.afternoon(x, "pull west soft bites ; pull west soft bites ; pull west hard runs ;");
        due("1 and 1 tighter", x.judged(1), 50);
        Feeding.afternoon(x, "pull west soft bites ; pull west soft runs ;");
        due("1 tighter", x.judged(0), 1);
        x = told(ONE + "run (tight = 2) * 5 ; tear 0 ; kite worth 50 paper 2 ; ");
        Feeding.afternoon(x, "pull west hard bites ; pull west soft runs ;");
        due("2 tighter", x.judged(0), -1);
        Feeding.afternoon(x, "pull west hard bites ; slack ; pull west soft runs ;");
        due("2 tighter, 1 looser", x.judged(0), 2);
        Feeding.afternoon(x, "pull west hard bites ; slack ; pull west soft bites ; pull west soft runs ;");
        due("2 tighter, 1 looser, 1 tighter", x.judged(1), 50);
        // From each side.
        for (int side = 0; side < 4; side++) {
            x = told(ONE.replace("side east", "side " + SIDES[side]) + "run (away = 0) * 5 ; tear 0 ; ");
            for (int from = 0; from < 4; from++) {
                Feeding.afternoon(x, "pull " + SIDES[from] + " soft runs ;");
                due("from " + SIDES[from] + " off " + SIDES[side], x.judged(0), from == side ? -1 : 0);
            }
        }
    }
}
