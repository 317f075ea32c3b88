import java.util.Arrays;

/**
 * A kite in an elm: trees and afternoons told in a language, tries by hand and what they lead to.
 * What each method answers is said, promise by promise, in ../shared/DOC.md.
 */
public final class ElmKite {
    public static final int NONE = -1;

    private static final int OTHERS = -2;

    private static final int SIDES = 4;
    private static final int MOST_TWIGS = 8;
    private static final int MOST_THINGS = 4;
    private static final int MOST_STRUNG = 6;
    private static final int MOST_ELMS = 8;
    private static final int MOST_LINES = 24;
    private static final int MOST_TRIES = 6;
    private static final int MOST_TOLD = 12;
    private static final int MOST_UNDONE = 16;
    private static final int MARKS = 4;
    private static final int MAP = 16;
    private static final int TIGHTEST = 9;
    private static final int TEN = 10;
    private static final int HOURS = 24;
    private static final int MILLION = 1000000;

    // The kite.
    private static final int UP = 0;
    private static final int DOWN = 1;
    private static final int TORN = 2;

    // What can be done, by hand or told.
    private static final int PULL_SOFT = 0;
    private static final int PULL_HARD = 1;
    private static final int SLACKENS = 2;
    private static final int IT_LIFTS = 3;
    private static final int HURLS = 4;
    private static final int CLIMBS = 5;
    private static final int POKES = 6;
    private static final int HOUR_BEGINS = 7;

    // The ends of a PULL, and of a HURL.
    private static final int RUNS = 0;
    private static final int BITES = 1;
    private static final int TEARS = 2;
    private static final int COMES_DOWN = 0;
    private static final int STICKS = 1;
    private static final int FREES = 2;

    // What NEXT can answer: 1 to 8 are the PULLS, from NEXT_HURL on come the THINGS.
    private static final int NEXT_STOP = 0;
    private static final int NEXT_HARD = 5;
    private static final int NEXT_SLACK = 9;
    private static final int NEXT_LIFT = 10;
    private static final int NEXT_HURL = 11;
    private static final int NEXT_ALL = NEXT_HURL + MOST_THINGS;

    // Places in the row of a TREE's single numbers.
    private static final int KITE_WORTH = 0;
    private static final int PAPER = 1;
    private static final int WIND = 2;
    private static final int TURNS_ON = 3;
    private static final int TURNS_BACK = 4;
    private static final int LIFT = 5;
    private static final int DEW = 6;
    private static final int LADDER = 7;
    private static final int POLE = 8;
    private static final int WEIGHS = 9;
    private static final int CORD = 10;
    private static final int[] FIRST_NUMBERS = {0, 9, 0, 0, 0, 0, 0, 0, 0, 10, 5};

    // The TAPE and its TOKENS.
    private static final int LONGEST_TAPE = 1000;
    private static final int LONGEST_WORD = 8;
    private static final int LONGEST_NUMBER = 4;
    private static final String SIGNS = "()<=+-*;";
    // Each with a blank behind it; the facts, which are not reserved, come last.
    private static final String WORDS = "twig high thick side on string kite worth paper thing stuck frees over wind lift dew ladder pole weighs cord elm run tear pull slack lifts hurl climb poke hour north east south west soft hard runs bites tears down sticks not and or tight size away force ";
    private static final int WORDS_RESERVED = 44;
    private static final int WORDS_ALL = 48;

    // Kinds of TOKENS: a reserved WORD is its place in WORDS, a sign is SIGN and its number.
    private static final int WORD_TWIG = 0;
    private static final int WORD_HIGH = 1;
    private static final int WORD_THICK = 2;
    private static final int WORD_SIDE = 3;
    private static final int WORD_ON = 4;
    private static final int WORD_STRING = 5;
    private static final int WORD_KITE = 6;
    private static final int WORD_WORTH = 7;
    private static final int WORD_PAPER = 8;
    private static final int WORD_THING = 9;
    private static final int WORD_STUCK = 10;
    private static final int WORD_FREES = 11;
    private static final int WORD_OVER = 12;
    private static final int WORD_WIND = 13;
    private static final int WORD_LIFT = 14;
    private static final int WORD_DEW = 15;
    private static final int WORD_LADDER = 16;
    private static final int WORD_POLE = 17;
    private static final int WORD_WEIGHS = 18;
    private static final int WORD_CORD = 19;
    private static final int WORD_ELM = 20;
    private static final int WORD_RUN = 21;
    private static final int WORD_TEAR = 22;
    private static final int WORD_PULL = 23;
    private static final int WORD_SLACK = 24;
    private static final int WORD_LIFTS = 25;
    private static final int WORD_HURL = 26;
    private static final int WORD_CLIMB = 27;
    private static final int WORD_POKE = 28;
    private static final int WORD_HOUR = 29;
    private static final int WORD_NORTH = 30;
    private static final int WORD_SOFT = 34;
    private static final int WORD_RUNS = 36;
    private static final int WORD_DOWN = 39;
    private static final int WORD_STICKS = 40;
    private static final int WORD_NOT = 41;
    private static final int WORD_AND = 42;
    private static final int WORD_OR = 43;
    private static final int NAME = 100;
    private static final int NUMBER = 101;
    private static final int END = 102;
    private static final int NO_TOKEN = 103;
    private static final int SIGN = 200;

    // Kinds of FAULTS.
    private static final int CANT_STAND = 1;
    private static final int UNKNOWN = 2;
    private static final int TOLD_ALREADY = 3;
    private static final int NOT_AS_TOLD = 4;
    private static final int TOO_MANY = 5;

    private final Tokens tokens = new Tokens();
    private final TreeReader treeReader = new TreeReader();
    private final Now now = new Now();
    private final Told told = new Told();
    private final Past past = new Past();
    private final Draws draws = new Draws();
    private final int[] rows = new int[1 << MOST_THINGS];
    private Tree elm = new Tree();
    private Tree spareElm = new Tree();
    private Day day = new Day();
    private Day spareDay = new Day();

    public ElmKite() {
    }

    public int feed(long a, long b, long c) {
        tokens.addEight(a);
        tokens.addEight(b);
        tokens.addEight(c);
        return tokens.size;
    }

    public int tree() {
        int fault = treeReader.read(tokens, spareElm);
        if (fault == 0) {
            Tree old = elm;
            elm = spareElm;
            spareElm = old;
            now.begin(elm);
            told.clear();
            past.clear();
            day.clear();
        }
        return fault;
    }

    public int afternoon() {
        int fault = spareDay.read(tokens, elm);
        if (fault == 0) {
            Day old = day;
            day = spareDay;
            spareDay = old;
        }
        return fault;
    }

    public int twig(int twig, int what) {
        if (twig < 0 || twig >= elm.twigs) {
            return NONE;
        }
        switch (what) {
            case 0: return at(elm.high, twig);
            case 1: return at(elm.thick, twig);
            case 2: return at(elm.side, twig);
            case 3: return at(elm.on, twig);
            case 4: return twig == now.last(elm) ? now.tight : 0;
            case 5: return now.position(elm, twig) == NONE ? 0 : 1;
            default: return NONE;
        }
    }

    public int thing(int thing, int what) {
        if (thing < 0 || thing >= elm.things) {
            return NONE;
        }
        switch (what) {
            case 0: return at(elm.worth, thing);
            case 1: return at(elm.stuck, thing);
            case 2: return at(elm.frees, thing);
            case 3: return bit(now.hand, thing);
            default: return NONE;
        }
    }

    public int chance(int side, boolean hard, int what) {
        if (!isSide(side) || now.kite != UP) {
            return NONE;
        }
        int last = now.last(elm);
        switch (what) {
            case 0: return elm.runs(last, now.tight, side, hard);
            case 1: return elm.tears(last, now.tight, side, hard);
            default: return NONE;
        }
    }

    public int pull(int side, boolean hard, int end) {
        return done(hard ? PULL_HARD : PULL_SOFT, side, end) ? now.strung() : NONE;
    }

    public int slack() {
        return done(SLACKENS, 0, 0) ? now.tight : NONE;
    }

    public boolean lifts() {
        return done(IT_LIFTS, 0, 0);
    }

    public int hurl(int thing, int end) {
        return done(HURLS, thing, end) ? now.strung() : NONE;
    }

    public boolean climb(int twig, boolean poke) {
        return done(poke ? POKES : CLIMBS, twig, 0);
    }

    public int hour(int side) {
        return done(HOUR_BEGINS, side, 0) ? now.hour : NONE;
    }

    public boolean undo() {
        if (past.count <= 0) {
            return false;
        }
        now.restore(past.pop());
        return true;
    }

    public int judged(int what) {
        if (what != 0 && what != 1) {
            return OTHERS;
        }
        int first = day.judge(elm, draws.scratch);
        return what == 0 ? first : draws.scratch.inAll(elm);
    }

    public int worth() {
        return now.inAll(elm);
    }

    public int next(int tries, int what) {
        if (tries < 0 || tries > MOST_TRIES || (what != 0 && what != 1)) {
            return NONE;
        }
        if (now.kite != UP) {
            return what == 0 ? 1000 * now.inAll(elm) : NEXT_STOP;
        }
        draws.planner.look(elm, now);
        int plan = draws.planner.best(elm, now, tries);
        return what == 0 ? Planner.thousandths(plan) : Planner.first(plan);
    }

    public boolean tell(int side, boolean ran) {
        if (!isSide(side) || told.many() >= MOST_TOLD) {
            return false;
        }
        told.add(side, ran);
        return true;
    }

    public int fits() {
        int bits = 0;
        for (int twig = 0; twig < elm.twigs; twig++) {
            if (told.product(elm, twig) > 0) {
                bits |= 1 << twig;
            }
        }
        return bits;
    }

    public int likely(int what) {
        int likeliest = told.likeliest(elm);
        if (likeliest == NONE) {
            return NONE;
        }
        switch (what) {
            case 0: return likeliest;
            case 1: return told.millionths(elm, likeliest);
            default: return NONE;
        }
    }

    public int tells() {
        return told.likeliest(elm) == NONE ? NONE : told.bestSide(elm);
    }

    public int cut(int side, int steps, int what) {
        if (!isSide(side) || steps < 0 || steps > 20 || (what != 0 && what != 1) || now.kite != UP) {
            return NONE;
        }
        int left = now.leftByWalking(elm, side, steps);
        return what == 0 ? Integer.bitCount(left) : elm.lost(left);
    }

    public int waits(int side, int hours) {
        if (!isSide(side) || hours < 0 || hours > 48) {
            return NONE;
        }
        return now.windComes(elm, side, hours);
    }

    public int lasts() {
        return now.paperLasts(elm);
    }

    public int far(int twig) {
        if (twig < 0 || twig >= elm.twigs) {
            return NONE;
        }
        int feet = at(elm.thick, twig) - elm.number(WEIGHS);
        return feet < 0 ? NONE : Math.min(feet, 20);
    }

    public int minutes(int twig) {
        return twig < 0 || twig >= elm.twigs ? NONE : elm.reach(twig);
    }

    public int safe(int x, int y) {
        return isPlace(x, y) ? elm.elms.safeSides(x, y, elm.number(CORD)) : NONE;
    }

    public int places(int side) {
        if (side != NONE && !isSide(side)) {
            return NONE;
        }
        return elm.elms.cells(side == NONE ? (1 << SIDES) - 1 : 1 << side, elm.number(CORD));
    }

    public int nearest(int x, int y) {
        return isPlace(x, y) ? elm.elms.steps(x, y, elm.number(CORD)) : NONE;
    }

    public int came(int thing, int what) {
        elm.countRows(rows);
        int many = at(rows, (1 << elm.things) - 1);
        if (thing == NONE) {
            return many;
        }
        if (thing < 0 || thing >= elm.things || (what != 0 && what != 1) || many == 0) {
            return OTHERS;
        }
        return what == 0 ? elm.firstPlace(rows, thing) : elm.lastPlace(rows, thing);
    }

    public int afternoons(int seed, int many, int tries, int what) {
        if (seed < 0 || seed > 9999 || many < 1 || many > 20 || tries < 1 || tries > MOST_TRIES) {
            return NONE;
        }
        if (what < 0 || what > 2) {
            return NONE;
        }
        draws.play(elm, now, seed, many, tries);
        switch (what) {
            case 0: return draws.inAll;
            case 1: return draws.torn;
            default: return draws.stuck;
        }
    }

    public boolean mark(int mark, boolean back) {
        if (mark < 0 || mark >= MARKS) {
            return false;
        }
        if (!back) {
            past.lay(mark, now.held(), told.held());
            return true;
        }
        if (!past.isLaid(mark)) {
            return false;
        }
        now.restore(past.markedNow(mark));
        told.restore(past.markedTold(mark));
        past.forget();
        return true;
    }

    public int count(int what) {
        switch (what) {
            case 0: return elm.twigs;
            case 1: return elm.things;
            case 2: return now.strung();
            case 3: return now.hour;
            case 4: return now.wind;
            case 5: return now.kite;
            case 6: return now.paper;
            case 7: return elm.elms.count;
            case 8: return day.size;
            case 9: return told.many();
            case 10: return past.count;
            case 11: return tokens.size;
            case 12: return Integer.bitCount(now.hand);
            default: return NONE;
        }
    }

    /** Does it if it can be, so that it can be undone. */
    private boolean done(int what, int whom, int end) {
        long ahead = now.held();
        boolean can = now.does(elm, what, whom, end);
        if (can) {
            past.push(ahead);
        }
        return can;
    }

    private static boolean isSide(int side) {
        return side >= 0 && side < SIDES;
    }

    private static boolean isPlace(int x, int y) {
        return x >= 0 && x < MAP && y >= 0 && y < MAP;
    }

    private static int sidesAway(int one, int other) {
        int on = Math.abs(one - other);
        return Math.min(on, SIDES - on);
    }

    private static int at(int[] row, int place) {
        return row != null && place >= 0 && place < row.length ? row[place] : 0;
    }

    private static void put(int[] row, int place, int value) {
        if (row != null && place >= 0 && place < row.length) {
            row[place] = value;
        }
    }

    private static long at(long[] row, int place) {
        return row != null && place >= 0 && place < row.length ? row[place] : 0L;
    }

    private static void put(long[] row, int place, long value) {
        if (row != null && place >= 0 && place < row.length) {
            row[place] = value;
        }
    }

    private static int bit(int bits, int place) {
        return place >= 0 && place < 31 ? bits >> place & 1 : 0;
    }

    /** The TAPE, the TOKEN that is to be read next, and the first FAULT, which stays. */
    private static final class Tokens {
        private final int[] signs = new int[LONGEST_TAPE];
        private final long[] words = new long[WORDS_ALL];
        int size;
        int kind;
        int number;
        int fact;
        int fault;
        long word;
        private int place;
        private int behind;

        Tokens() {
            long packed = 0;
            int filled = 0;
            for (int i = 0; i < WORDS.length(); i++) {
                char sign = WORDS.charAt(i);
                if (sign == ' ') {
                    if (filled < words.length) {
                        words[filled] = packed;
                    }
                    filled++;
                    packed = 0;
                } else {
                    packed = packed * 32 + (sign - 'a' + 1);
                }
            }
        }

        void addEight(long eight) {
            for (int shift = 56; shift >= 0; shift -= 8) {
                int sign = (int) (eight >>> shift & 255);
                boolean stays = sign == 10 || (sign >= 32 && sign <= 126);
                if (stays && size < LONGEST_TAPE) {
                    put(signs, size, sign);
                    size++;
                }
            }
        }

        void open() {
            fault = 0;
            behind = 0;
            take();
        }

        /** Takes the TAPE away and answers the FAULT. */
        int close() {
            size = 0;
            return fault;
        }

        boolean fine() {
            return fault == 0;
        }

        void wrong(int how) {
            if (fault == 0) {
                fault = how + 16 * place;
            }
        }

        boolean is(int wanted) {
            return fault == 0 && kind == wanted;
        }

        boolean took(int wanted) {
            if (!is(wanted)) {
                return false;
            }
            take();
            return true;
        }

        void expect(int wanted) {
            if (is(wanted)) {
                take();
            } else {
                wrong(CANT_STAND);
            }
        }

        /** One of some WORDS that follow each other: which it is. */
        int oneOf(int first, int many) {
            if (kind < first || kind >= first + many) {
                wrong(CANT_STAND);
                return 0;
            }
            int which = kind - first;
            take();
            return which;
        }

        /** Looks at a NUMBER without taking it. */
        int seenNumber(int least, int most) {
            if (kind != NUMBER) {
                wrong(CANT_STAND);
            } else if (number < least || number > most) {
                wrong(NOT_AS_TOLD);
            }
            return number;
        }

        int takenNumber(int least, int most) {
            int seen = seenNumber(least, most);
            if (fine()) {
                take();
            }
            return seen;
        }

        /** Looks at a NAME told of a TWIG, or of a THING, without taking it. */
        int seenName(Tree tree, boolean ofThing) {
            if (kind != NAME) {
                wrong(CANT_STAND);
                return NONE;
            }
            int known = ofThing ? tree.thingNamed(word) : tree.twigNamed(word);
            if (known == NONE) {
                wrong(UNKNOWN);
            }
            return known;
        }

        int takenName(Tree tree, boolean ofThing) {
            int seen = seenName(tree, ofThing);
            if (fine()) {
                take();
            }
            return seen;
        }

        void take() {
            for (int i = 0; i < LONGEST_TAPE && isBlank(signAt(behind)); i++) {
                behind++;
            }
            place = behind;
            int sign = signAt(behind);
            int length = 0;
            if (isLetter(sign)) {
                word = 0;
                for (; length < LONGEST_TAPE && isLetter(signAt(behind)); length++) {
                    word = length < LONGEST_WORD ? word * 32 + (signAt(behind) - 'a' + 1) : 0;
                    behind++;
                }
                int which = placeOf(word);
                fact = which - WORDS_RESERVED;
                kind = which >= 0 && which < WORDS_RESERVED ? which : NAME;
                kind = length > LONGEST_WORD ? NO_TOKEN : kind;
            } else if (isDigit(sign)) {
                number = 0;
                for (; length < LONGEST_TAPE && isDigit(signAt(behind)); length++) {
                    number = length < LONGEST_NUMBER ? number * 10 + (signAt(behind) - '0') : 0;
                    behind++;
                }
                kind = length > LONGEST_NUMBER ? NO_TOKEN : NUMBER;
            } else if (sign == 0) {
                kind = END;
            } else {
                kind = SIGNS.indexOf((char) sign) >= 0 ? SIGN + sign : NO_TOKEN;
                behind++;
            }
        }

        private int placeOf(long sought) {
            for (int i = 0; i < words.length; i++) {
                if (words[i] == sought) {
                    return i;
                }
            }
            return NONE;
        }

        private int signAt(int where) {
            return where >= 0 && where < size && where < signs.length ? signs[where] : 0;
        }

        private static boolean isBlank(int sign) {
            return sign == 10 || sign == 32;
        }

        private static boolean isLetter(int sign) {
            return sign >= 'a' && sign <= 'z';
        }

        private static boolean isDigit(int sign) {
            return sign >= '0' && sign <= '9';
        }
    }

    /** A law told as an E: what it tells is kept behind one another, each operation behind what it joins. */
    private static final class Law {
        private static final int DEEPEST = 5;
        private static final int RANK_JOINS = 0;
        private static final int RANK_COMPARES = 1;
        private static final int RANK_ADDS = 2;
        private static final int RANK_TIMES = 3;
        private static final int RANK_PARTS = 4;

        // A NUMBER stands for itself, the facts are -1 to -4, operations are below.
        private static final int LAST_FACT = -4;
        private static final int IS_NOT = -5;
        private static final int IS_AND = -6;
        private static final int IS_OR = -7;
        private static final int IS_LESS = -8;
        private static final int IS_SAME = -9;
        private static final int ADDS = -10;
        private static final int TAKES = -11;
        private static final int TIMES = -12;

        private final int[] code = new int[LONGEST_TAPE];
        private final int[] stack = new int[32];
        private final int[] facts = new int[4];
        boolean told;
        private int size;
        private int top;

        void forget() {
            told = false;
            size = 0;
        }

        void readFrom(Tokens tokens) {
            told = true;
            size = 0;
            readRank(tokens, RANK_JOINS, 0);
        }

        /** Reads what binds as a rank does: the lower it is, the looser. */
        private void readRank(Tokens tokens, int rank, int depth) {
            if (rank >= RANK_PARTS) {
                readPart(tokens, depth);
                return;
            }
            readRank(tokens, rank + 1, depth);
            for (int i = 0; i < LONGEST_TAPE && tokens.fine(); i++) {
                int operation = operation(tokens.kind, rank);
                if (operation == 0) {
                    return;
                }
                tokens.take();
                readRank(tokens, rank + 1, depth);
                emit(operation);
                if (rank == RANK_COMPARES) {
                    return;
                }
            }
        }

        private void readPart(Tokens tokens, int depth) {
            boolean isFact = tokens.is(NAME) && tokens.fact >= 0;
            boolean isPart = isFact || tokens.is(NUMBER) || tokens.is(WORD_NOT) || tokens.is(SIGN + '(');
            if (!isPart || depth >= DEEPEST) {
                tokens.wrong(isPart ? TOO_MANY : CANT_STAND);
            } else if (isFact) {
                emit(-1 - tokens.fact);
                tokens.take();
            } else if (tokens.is(NUMBER)) {
                emit(tokens.number);
                tokens.take();
            } else if (tokens.is(WORD_NOT)) {
                tokens.take();
                readPart(tokens, depth + 1);
                emit(IS_NOT);
            } else {
                tokens.take();
                readRank(tokens, RANK_JOINS, depth + 1);
                if (tokens.is(SIGN + ')')) {
                    tokens.take();
                } else {
                    tokens.wrong(CANT_STAND);
                }
            }
        }

        private static int operation(int kind, int rank) {
            switch (rank) {
                case RANK_JOINS: return kind == WORD_AND ? IS_AND : kind == WORD_OR ? IS_OR : 0;
                case RANK_COMPARES: return kind == SIGN + '<' ? IS_LESS : kind == SIGN + '=' ? IS_SAME : 0;
                case RANK_ADDS: return kind == SIGN + '+' ? ADDS : kind == SIGN + '-' ? TAKES : 0;
                case RANK_TIMES: return kind == SIGN + '*' ? TIMES : 0;
                default: return 0;
            }
        }

        private void emit(int told) {
            put(code, size, told);
            size++;
        }

        int reckon(int tight, int thick, int away, int force) {
            put(facts, 0, tight);
            put(facts, 1, thick);
            put(facts, 2, away);
            put(facts, 3, force);
            top = 0;
            for (int i = 0; i < size && i < code.length; i++) {
                step(code[i]);
            }
            return pop();
        }

        private void step(int told) {
            if (told >= 0) {
                push(told);
            } else if (told >= LAST_FACT) {
                push(at(facts, -1 - told));
            } else if (told == IS_NOT) {
                push(pop() == 0 ? 1 : 0);
            } else {
                int right = pop();
                int left = pop();
                push(joined(told, left, right));
            }
        }

        private static int joined(int operation, int left, int right) {
            switch (operation) {
                case IS_AND: return left != 0 && right != 0 ? 1 : 0;
                case IS_OR: return left != 0 || right != 0 ? 1 : 0;
                case IS_LESS: return left < right ? 1 : 0;
                case IS_SAME: return left == right ? 1 : 0;
                case ADDS: return left + right;
                case TAKES: return left - right;
                case TIMES: return left * right;
                default: return 0;
            }
        }

        private void push(int value) {
            put(stack, top, value);
            top++;
        }

        private int pop() {
            top--;
            return at(stack, top);
        }
    }

    /** Reads the TAPE as a TREE. */
    private static final class TreeReader {
        private final Law run = new Law();
        private final Law tear = new Law();
        private int toldOnce;

        int read(Tokens tokens, Tree tree) {
            tree.clear();
            run.forget();
            tear.forget();
            toldOnce = 0;
            tokens.open();
            for (int i = 0; i < LONGEST_TAPE && tokens.fine() && !tokens.is(END); i++) {
                readLine(tokens, tree);
            }
            if (tokens.fine()) {
                tree.reckonChances(run, tear);
            }
            return tokens.close();
        }

        private void readLine(Tokens tokens, Tree tree) {
            int word = tokens.kind;
            checkFirst(tokens, tree, word);
            if (!tokens.fine()) {
                return;
            }
            toldOnce |= 1 << word;
            tokens.take();
            switch (word) {
                case WORD_TWIG: readTwig(tokens, tree); break;
                case WORD_STRING: readString(tokens, tree); break;
                case WORD_KITE: readKite(tokens, tree); break;
                case WORD_THING: readThing(tokens, tree); break;
                case WORD_OVER: readOver(tokens, tree); break;
                case WORD_WIND: readWind(tokens, tree); break;
                case WORD_LADDER: readLadder(tokens, tree); break;
                case WORD_ELM: readElm(tokens, tree); break;
                case WORD_RUN: run.readFrom(tokens); break;
                case WORD_TEAR: tear.readFrom(tokens); break;
                case WORD_LIFT: tree.say(LIFT, tokens.takenNumber(0, 10)); break;
                case WORD_DEW: tree.say(DEW, tokens.takenNumber(0, 9)); break;
                case WORD_WEIGHS: tree.say(WEIGHS, tokens.takenNumber(1, 99)); break;
                default: tree.say(CORD, tokens.takenNumber(1, 15)); break;
            }
            tokens.expect(SIGN + ';');
        }

        private void checkFirst(Tokens tokens, Tree tree, int word) {
            boolean full = false;
            boolean again = false;
            switch (word) {
                case WORD_TWIG: full = tree.twigs >= MOST_TWIGS; break;
                case WORD_THING: full = tree.things >= MOST_THINGS; break;
                case WORD_ELM: full = tree.elms.count >= MOST_ELMS; break;
                case WORD_OVER: break;
                case WORD_STRING: case WORD_KITE: case WORD_WIND: case WORD_LIFT: case WORD_DEW:
                case WORD_LADDER: case WORD_WEIGHS: case WORD_CORD: case WORD_RUN: case WORD_TEAR:
                    again = bit(toldOnce, word) == 1;
                    break;
                default: tokens.wrong(CANT_STAND); break;
            }
            if (again) {
                tokens.wrong(TOLD_ALREADY);
            }
            if (full) {
                tokens.wrong(TOO_MANY);
            }
        }

        private static void readTwig(Tokens tokens, Tree tree) {
            long name = newName(tokens, tree);
            tokens.expect(WORD_HIGH);
            int high = tokens.takenNumber(1, 60);
            tokens.expect(WORD_THICK);
            int thick = tokens.takenNumber(1, 20);
            tokens.expect(WORD_SIDE);
            int side = tokens.oneOf(WORD_NORTH, SIDES);
            int on = tokens.took(WORD_ON) ? tokens.takenName(tree, false) : NONE;
            if (tokens.fine()) {
                tree.addTwig(name, high, thick, side, on);
            }
        }

        private static void readString(Tokens tokens, Tree tree) {
            for (int i = 0; i <= MOST_STRUNG && tokens.fine(); i++) {
                if (i > 0 && tokens.is(SIGN + ';')) {
                    return;
                }
                int twig = tokens.seenName(tree, false);
                if (!tokens.fine()) {
                    return;
                }
                if (tree.isStrung(twig)) {
                    tokens.wrong(TOLD_ALREADY);
                } else if (tree.strung >= MOST_STRUNG) {
                    tokens.wrong(TOO_MANY);
                } else {
                    tree.addStrung(twig);
                    tokens.take();
                }
            }
        }

        private static void readKite(Tokens tokens, Tree tree) {
            tokens.expect(WORD_WORTH);
            tree.say(KITE_WORTH, tokens.takenNumber(0, 999));
            tokens.expect(WORD_PAPER);
            tree.say(PAPER, tokens.takenNumber(0, 99));
        }

        private static void readThing(Tokens tokens, Tree tree) {
            long name = newName(tokens, tree);
            tokens.expect(WORD_WORTH);
            int worth = tokens.takenNumber(0, 999);
            tokens.expect(WORD_STUCK);
            int stuck = tokens.takenNumber(0, TEN);
            tokens.expect(WORD_FREES);
            int frees = tokens.takenNumber(0, TEN - stuck);
            if (tokens.fine()) {
                tree.addThing(name, worth, stuck, frees);
            }
        }

        private static void readOver(Tokens tokens, Tree tree) {
            int first = tokens.takenName(tree, true);
            if (!tokens.fine()) {
                return;
            }
            int second = tokens.seenName(tree, true);
            if (!tokens.fine()) {
                return;
            }
            if (first == second || tree.cameAhead(first, second)) {
                tokens.wrong(TOLD_ALREADY);
            } else {
                tree.addAhead(first, second);
                tokens.take();
            }
        }

        private static void readWind(Tokens tokens, Tree tree) {
            tree.say(WIND, tokens.oneOf(WORD_NORTH, SIDES));
            int on = tokens.takenNumber(0, TEN);
            tree.say(TURNS_ON, on);
            tree.say(TURNS_BACK, tokens.takenNumber(0, TEN - on));
        }

        private static void readLadder(Tokens tokens, Tree tree) {
            tree.say(LADDER, tokens.takenNumber(0, 60));
            tokens.expect(WORD_POLE);
            tree.say(POLE, tokens.takenNumber(0, 60));
        }

        private static void readElm(Tokens tokens, Tree tree) {
            int x = tokens.takenNumber(0, MAP - 1);
            int y = tokens.seenNumber(0, MAP - 1);
            if (!tokens.fine()) {
                return;
            }
            if (tree.elms.stands(x, y)) {
                tokens.wrong(TOLD_ALREADY);
            } else {
                tree.elms.plant(x, y);
                tokens.take();
            }
        }

        private static long newName(Tokens tokens, Tree tree) {
            if (tokens.kind != NAME) {
                tokens.wrong(CANT_STAND);
                return 0;
            }
            long name = tokens.word;
            if (tree.twigNamed(name) != NONE || tree.thingNamed(name) != NONE) {
                tokens.wrong(TOLD_ALREADY);
            } else {
                tokens.take();
            }
            return name;
        }
    }

    /** A TREE as it is told; nothing in it changes by a try. */
    private static final class Tree {
        final int[] high = new int[MOST_TWIGS];
        final int[] thick = new int[MOST_TWIGS];
        final int[] side = new int[MOST_TWIGS];
        final int[] on = new int[MOST_TWIGS];
        final int[] worth = new int[MOST_THINGS];
        final int[] stuck = new int[MOST_THINGS];
        final int[] frees = new int[MOST_THINGS];
        final Elms elms = new Elms();
        private final long[] twigNames = new long[MOST_TWIGS];
        private final long[] thingNames = new long[MOST_THINGS];
        private final int[] ahead = new int[MOST_THINGS];
        private final int[] string = new int[MOST_STRUNG];
        private final int[] numbers = FIRST_NUMBERS.clone();
        // Of ten, by TWIG, how tight it is, sides away and force: reckoned once, since laws may be long.
        private final int[] running = new int[MOST_TWIGS * (TIGHTEST + 1) * 6];
        private final int[] tearing = new int[MOST_TWIGS * (TIGHTEST + 1) * 6];
        int twigs;
        int things;
        int strung;

        void clear() {
            twigs = 0;
            things = 0;
            strung = 0;
            elms.clear();
            for (int which = 0; which < numbers.length; which++) {
                numbers[which] = at(FIRST_NUMBERS, which);
            }
        }

        void say(int which, int number) {
            put(numbers, which, number);
        }

        int number(int which) {
            return at(numbers, which);
        }

        void addTwig(long name, int highIs, int thickIs, int sideIs, int onIs) {
            put(twigNames, twigs, name);
            put(high, twigs, highIs);
            put(thick, twigs, thickIs);
            put(side, twigs, sideIs);
            put(on, twigs, onIs);
            twigs++;
        }

        void addThing(long name, int worthIs, int stuckIs, int freesIs) {
            put(thingNames, things, name);
            put(worth, things, worthIs);
            put(stuck, things, stuckIs);
            put(frees, things, freesIs);
            put(ahead, things, 0);
            things++;
        }

        int twigNamed(long name) {
            for (int twig = 0; twig < twigs; twig++) {
                if (at(twigNames, twig) == name) {
                    return twig;
                }
            }
            return NONE;
        }

        int thingNamed(long name) {
            for (int thing = 0; thing < things; thing++) {
                if (at(thingNames, thing) == name) {
                    return thing;
                }
            }
            return NONE;
        }

        void addStrung(int twig) {
            put(string, strung, twig);
            strung++;
        }

        boolean isStrung(int twig) {
            for (int position = 0; position < strung; position++) {
                if (at(string, position) == twig) {
                    return true;
                }
            }
            return false;
        }

        int strungAt(int position) {
            return position >= 0 && position < strung ? at(string, position) : NONE;
        }

        void addAhead(int first, int second) {
            put(ahead, second, at(ahead, second) | 1 << first);
        }

        boolean cameAhead(int first, int second) {
            return bit(at(ahead, second), first) == 1;
        }

        void reckonChances(Law run, Law tear) {
            for (int twig = 0; twig < twigs; twig++) {
                for (int tight = 0; tight <= TIGHTEST; tight++) {
                    for (int away = 0; away < 3; away++) {
                        reckonChance(run, tear, twig, tight, away, 0);
                        reckonChance(run, tear, twig, tight, away, 1);
                    }
                }
            }
        }

        private void reckonChance(Law run, Law tear, int twig, int tight, int away, int force) {
            int size = at(thick, twig);
            int runsBy = away == 0 ? TEN - tight : away == 1 ? 3 - tight : 0;
            int tearsBy = tight + 2 * force;
            if (run.told) {
                runsBy = run.reckon(tight, size, away, force);
            }
            if (tear.told) {
                tearsBy = tear.reckon(tight, size, away, force);
            }
            int place = chancePlace(twig, tight, away, force);
            put(running, place, Math.max(0, Math.min(TEN, runsBy)));
            put(tearing, place, Math.max(0, Math.min(TEN, tearsBy)));
        }

        private static int chancePlace(int twig, int tight, int away, int force) {
            return ((twig * (TIGHTEST + 1) + tight) * 3 + away) * 2 + force;
        }

        /** Of ten, a PULL runs off a TWIG that is so tight. */
        int runs(int twig, int tight, int from, boolean hard) {
            return at(running, chancePlace(twig, tight, sidesAway(from, at(side, twig)), hard ? 1 : 0));
        }

        /** Of ten, a PULL that doesn't run off tears. */
        int tears(int twig, int tight, int from, boolean hard) {
            return at(tearing, chancePlace(twig, tight, sidesAway(from, at(side, twig)), hard ? 1 : 0));
        }

        int handWorth(int hand) {
            int sum = 0;
            for (int thing = 0; thing < things; thing++) {
                if (bit(hand, thing) == 1) {
                    sum += at(worth, thing);
                }
            }
            return sum;
        }

        /** Whether a TWIG and all it is on bear one. */
        boolean bears(int twig) {
            int under = twig;
            for (int i = 0; i < MOST_TWIGS && under != NONE; i++) {
                if (at(thick, under) < number(WEIGHS)) {
                    return false;
                }
                under = at(on, under);
            }
            return true;
        }

        /** The least minutes to a TWIG. */
        int reach(int twig) {
            int up = at(high, twig);
            int least = bears(twig) ? up : NONE;
            if (up <= number(LADDER) + number(POLE)) {
                least = lesser(least, 9);
            }
            if (up <= number(LADDER)) {
                least = lesser(least, 5);
            }
            if (up <= number(POLE)) {
                least = lesser(least, 2);
            }
            return least;
        }

        private static int lesser(int least, int other) {
            return least == NONE ? other : Math.min(least, other);
        }

        /** String lost between what is left: how far apart in height, and one more for each two. */
        int lost(int left) {
            int sum = 0;
            int behind = NONE;
            for (int position = 0; position < strung; position++) {
                if (bit(left, position) == 1) {
                    int up = at(high, strungAt(position));
                    if (behind != NONE) {
                        sum += Math.abs(up - behind) + 1;
                    }
                    behind = up;
                }
            }
            return sum;
        }

        /** By each set of THINGS: in how many rows they can be the first ones that came. */
        void countRows(int[] rows) {
            put(rows, 0, 1);
            for (int set = 1; set < 1 << things; set++) {
                int many = 0;
                for (int thing = 0; thing < things; thing++) {
                    int others = set & ~(1 << thing);
                    if (others != set && mayFollow(thing, others)) {
                        many += at(rows, others);
                    }
                }
                put(rows, set, many);
            }
        }

        private boolean mayFollow(int thing, int others) {
            return (at(ahead, thing) & ~others) == 0;
        }

        int firstPlace(int[] rows, int thing) {
            int first = things;
            for (int set = 0; set < 1 << things; set++) {
                if (canComeBehind(rows, thing, set)) {
                    first = Math.min(first, Integer.bitCount(set));
                }
            }
            return first;
        }

        int lastPlace(int[] rows, int thing) {
            int last = 0;
            for (int set = 0; set < 1 << things; set++) {
                if (canComeBehind(rows, thing, set)) {
                    last = Math.max(last, Integer.bitCount(set));
                }
            }
            return last;
        }

        private boolean canComeBehind(int[] rows, int thing, int set) {
            return bit(set, thing) == 0 && at(rows, set) > 0 && mayFollow(thing, set);
        }
    }

    /** The elms on the MAP, and from where a kite can be let out. */
    private static final class Elms {
        private final int[] columns = new int[MAP];
        int count;

        void clear() {
            count = 0;
            Arrays.fill(columns, 0);
        }

        void plant(int x, int y) {
            put(columns, x, at(columns, x) | 1 << y);
            count++;
        }

        boolean stands(int x, int y) {
            return bit(at(columns, x), y) == 1;
        }

        private boolean isClear(int x, int y, int side, int cord) {
            int over = side == 1 ? -1 : side == 3 ? 1 : 0;
            int on = side == 0 ? 1 : side == 2 ? -1 : 0;
            for (int i = 0; i <= cord; i++) {
                if (stands(x + i * over, y + i * on)) {
                    return false;
                }
            }
            return true;
        }

        int safeSides(int x, int y, int cord) {
            int sides = 0;
            for (int side = 0; side < SIDES; side++) {
                if (isClear(x, y, side, cord)) {
                    sides |= 1 << side;
                }
            }
            return sides;
        }

        /** How many places are SAFE by all of some sides. */
        int cells(int sides, int cord) {
            int many = 0;
            for (int x = 0; x < MAP; x++) {
                for (int y = 0; y < MAP; y++) {
                    if ((safeSides(x, y, cord) & sides) == sides) {
                        many++;
                    }
                }
            }
            return many;
        }

        /** Steps to the nearest place that is SAFE by all sides. */
        int steps(int fromX, int fromY, int cord) {
            int least = NONE;
            for (int x = 0; x < MAP; x++) {
                for (int y = 0; y < MAP; y++) {
                    int away = Math.abs(x - fromX) + Math.abs(y - fromY);
                    boolean nearer = least == NONE || away < least;
                    if (nearer && safeSides(x, y, cord) == (1 << SIDES) - 1) {
                        least = away;
                    }
                }
            }
            return least;
        }
    }

    /** How it stands: all that tries and hours change. */
    private static final class Now {
        // Bits of places in the TREE's string. Only the LAST TWIG can be tight: none comes behind it.
        private int over;
        int tight;
        int hour = 12;
        int wind;
        int kite = DOWN;
        int paper = 9;
        int hand;
        private final int[] chances = new int[SIDES];
        private final int[] later = new int[SIDES];

        void begin(Tree tree) {
            over = (1 << tree.strung) - 1;
            tight = 0;
            hour = 12;
            wind = tree.number(WIND);
            kite = tree.strung > 0 ? UP : DOWN;
            paper = tree.number(PAPER);
            hand = (1 << tree.things) - 1;
        }

        /** All of it in one number. */
        long held() {
            long all = over;
            all = all << 4 | tight;
            all = all << 5 | hour;
            all = all << 2 | wind;
            all = all << 2 | kite;
            all = all << 7 | paper;
            return all << 4 | hand;
        }

        void restore(long all) {
            hand = (int) (all & 15);
            paper = (int) (all >> 4 & 127);
            kite = (int) (all >> 11 & 3);
            wind = (int) (all >> 13 & 3);
            hour = (int) (all >> 15 & 31);
            tight = (int) (all >> 20 & 15);
            over = (int) (all >> 24 & 63);
        }

        int strung() {
            return Integer.bitCount(over);
        }

        private static int lastOf(int positions) {
            for (int position = MOST_STRUNG - 1; position >= 0; position--) {
                if (bit(positions, position) == 1) {
                    return position;
                }
            }
            return NONE;
        }

        /** The LAST TWIG. */
        int last(Tree tree) {
            return tree.strungAt(lastOf(over));
        }

        /** Where on the string a TWIG is that the string is over yet. */
        int position(Tree tree, int twig) {
            for (int position = 0; position < MOST_STRUNG; position++) {
                if (bit(over, position) == 1 && tree.strungAt(position) == twig) {
                    return position;
                }
            }
            return NONE;
        }

        int inAll(Tree tree) {
            int sum = tree.handWorth(hand);
            return kite == DOWN && paper > 0 ? sum + tree.number(KITE_WORTH) : sum;
        }

        /** Does what is told if it can be. */
        boolean does(Tree tree, int what, int whom, int end) {
            switch (what) {
                case PULL_SOFT: return pulled(tree, whom, false, end);
                case PULL_HARD: return pulled(tree, whom, true, end);
                case SLACKENS: return slackened();
                case IT_LIFTS: return lifted(tree);
                case HURLS: return hurled(tree, whom, end);
                case CLIMBS: return climbed(tree, whom, false);
                case POKES: return climbed(tree, whom, true);
                case HOUR_BEGINS: return hourBegan(tree, whom);
                default: return false;
            }
        }

        private void comesOff(int position) {
            if (position == lastOf(over)) {
                tight = 0;
            }
            over &= ~(1 << position);
            if (over == 0) {
                kite = DOWN;
            }
        }

        boolean pulled(Tree tree, int side, boolean hard, int end) {
            if (kite != UP || !isSide(side)) {
                return false;
            }
            int run = tree.runs(last(tree), tight, side, hard);
            int tear = tree.tears(last(tree), tight, side, hard);
            if (end == RUNS && run > 0) {
                comesOff(lastOf(over));
                return true;
            }
            if (end == BITES && run < TEN && tear < TEN) {
                tight = Math.min(TIGHTEST, tight + (hard ? 2 : 1));
                return true;
            }
            if (end == TEARS && run < TEN && tear > 0) {
                over = 0;
                tight = 0;
                kite = TORN;
                return true;
            }
            return false;
        }

        private boolean slackened() {
            if (kite != UP || tight <= 0) {
                return false;
            }
            tight--;
            return true;
        }

        private boolean lifted(Tree tree) {
            if (kite != UP || tight > 0 || tree.number(LIFT) <= 0 || wind != at(tree.side, last(tree))) {
                return false;
            }
            comesOff(lastOf(over));
            return true;
        }

        boolean hurled(Tree tree, int thing, int end) {
            if (kite != UP || bit(hand, thing) == 0) {
                return false;
            }
            int stuck = at(tree.stuck, thing);
            int frees = at(tree.frees, thing);
            if (end == COMES_DOWN) {
                return stuck + frees < TEN;
            }
            if (end == STICKS && stuck > 0) {
                hand &= ~(1 << thing);
                return true;
            }
            if (end == FREES && frees > 0) {
                comesOff(lastOf(over));
                return true;
            }
            return false;
        }

        private boolean climbed(Tree tree, int twig, boolean poke) {
            int position = position(tree, twig);
            if (position == NONE) {
                return false;
            }
            boolean reached = poke
                    ? at(tree.high, twig) <= tree.number(LADDER) + tree.number(POLE)
                    : tree.bears(twig);
            if (reached) {
                comesOff(position);
            }
            return reached;
        }

        private boolean hourBegan(Tree tree, int side) {
            if (!isSide(side)) {
                return false;
            }
            hour = (hour + 1) % HOURS;
            wind = side;
            if (kite == UP) {
                paper = paperBehindDew(tree, hour, paper);
            }
            return true;
        }

        private static int paperBehindDew(Tree tree, int hour, int paper) {
            boolean dewy = hour >= 20 || hour < 6;
            return dewy ? Math.max(0, paper - tree.number(DEW)) : paper;
        }

        /** How many hours the paper lasts, as if the kite stayed up. */
        int paperLasts(Tree tree) {
            int then = hour;
            int yet = paper;
            for (int hours = 0; hours <= 240; hours++) {
                if (yet <= 0) {
                    return hours;
                }
                then = (then + 1) % HOURS;
                yet = paperBehindDew(tree, then, yet);
            }
            return NONE;
        }

        /** The chance, in millionths, that the wind comes from a side while there is paper. */
        int windComes(Tree tree, int side, int hours) {
            int lasts = paperLasts(tree);
            if (lasts == 0) {
                return 0;
            }
            int yet = lasts == NONE ? hours : Math.min(hours, lasts - 1);
            for (int from = 0; from < SIDES; from++) {
                put(chances, from, from == side ? MILLION : 0);
            }
            for (int i = 0; i < yet; i++) {
                waitAnHourMore(tree, side);
            }
            return at(chances, wind);
        }

        private void waitAnHourMore(Tree tree, int side) {
            int on = tree.number(TURNS_ON);
            int back = tree.number(TURNS_BACK);
            for (int from = 0; from < SIDES; from++) {
                int mean = (on * at(chances, (from + 1) % SIDES)
                        + back * at(chances, (from + SIDES - 1) % SIDES)
                        + (TEN - on - back) * at(chances, from)) / TEN;
                put(later, from, from == side ? MILLION : mean);
            }
            for (int from = 0; from < SIDES; from++) {
                put(chances, from, at(later, from));
            }
        }

        /** Which places the string is over yet when one has walked round, off one behind the other. */
        int leftByWalking(Tree tree, int side, int steps) {
            int left = over;
            int from = side;
            int yet = steps;
            for (int i = 0; i < MOST_STRUNG && left != 0; i++) {
                int position = lastOf(left);
                int to = at(tree.side, tree.strungAt(position));
                yet -= sidesAway(from, to);
                if (yet < 0) {
                    return left;
                }
                left &= ~(1 << position);
                from = to;
            }
            return left;
        }
    }

    /** What is TOLD of a PULL from each side: how often it ran off, how often not. */
    private static final class Told {
        private final int[] counts = new int[2 * SIDES];

        void clear() {
            Arrays.fill(counts, 0);
        }

        void add(int side, boolean ran) {
            int place = 2 * side + (ran ? 1 : 0);
            put(counts, place, at(counts, place) + 1);
        }

        int many() {
            int sum = 0;
            for (int place = 0; place < counts.length; place++) {
                sum += counts[place];
            }
            return sum;
        }

        long held() {
            long all = 0;
            for (int place = 0; place < counts.length; place++) {
                all = all << 4 | counts[place];
            }
            return all;
        }

        void restore(long all) {
            long rest = all;
            for (int place = counts.length - 1; place >= 0; place--) {
                counts[place] = (int) (rest & 15);
                rest >>= 4;
            }
        }

        /** The product, of ten each, of all that is TOLD if it was a TWIG. */
        long product(Tree tree, int twig) {
            long product = 1;
            for (int side = 0; side < SIDES; side++) {
                int run = tree.runs(twig, 0, side, false);
                product *= power(TEN - run, at(counts, 2 * side));
                product *= power(run, at(counts, 2 * side + 1));
            }
            return product;
        }

        private static long power(int base, int times) {
            long power = 1;
            for (int i = 0; i < times && i < MOST_TOLD; i++) {
                power *= base;
            }
            return power;
        }

        int likeliest(Tree tree) {
            int likeliest = NONE;
            long greatest = 0;
            for (int twig = 0; twig < tree.twigs; twig++) {
                long product = product(tree, twig);
                if (product > greatest) {
                    greatest = product;
                    likeliest = twig;
                }
            }
            return likeliest;
        }

        int millionths(Tree tree, int likeliest) {
            long all = 0;
            for (int twig = 0; twig < tree.twigs; twig++) {
                all += product(tree, twig);
            }
            return all <= 0 ? NONE : (int) (product(tree, likeliest) * MILLION / all);
        }

        int bestSide(Tree tree) {
            int best = NONE;
            long greatest = -1;
            for (int side = 0; side < SIDES; side++) {
                long share = shareBy(tree, side);
                if (share > greatest) {
                    greatest = share;
                    best = side;
                }
            }
            return best;
        }

        private long shareBy(Tree tree, int side) {
            long withRunning = 0;
            long without = 0;
            for (int twig = 0; twig < tree.twigs; twig++) {
                long product = product(tree, twig);
                int run = tree.runs(twig, 0, side, false);
                withRunning = Math.max(withRunning, product * run);
                without = Math.max(without, product * (TEN - run));
            }
            return withRunning + without;
        }
    }

    /** What can be undone, and the MARKS. */
    private static final class Past {
        private final long[] undone = new long[MOST_UNDONE];
        private final long[] nows = new long[MARKS];
        private final long[] tolds = new long[MARKS];
        private int laid;
        int count;

        void clear() {
            count = 0;
            laid = 0;
        }

        void forget() {
            count = 0;
        }

        void push(long ahead) {
            if (count >= MOST_UNDONE) {
                for (int i = 1; i < undone.length; i++) {
                    undone[i - 1] = undone[i];
                }
                count = MOST_UNDONE - 1;
            }
            put(undone, count, ahead);
            count++;
        }

        long pop() {
            count = Math.max(0, count - 1);
            return at(undone, count);
        }

        void lay(int mark, long now, long told) {
            put(nows, mark, now);
            put(tolds, mark, told);
            laid |= 1 << mark;
        }

        boolean isLaid(int mark) {
            return bit(laid, mark) == 1;
        }

        long markedNow(int mark) {
            return at(nows, mark);
        }

        long markedTold(int mark) {
            return at(tolds, mark);
        }
    }

    /** An AFTERNOON: its lines. */
    private static final class Day {
        private final int[] what = new int[MOST_LINES];
        private final int[] whom = new int[MOST_LINES];
        private final int[] end = new int[MOST_LINES];
        int size;

        void clear() {
            size = 0;
        }

        int read(Tokens tokens, Tree tree) {
            size = 0;
            tokens.open();
            for (int i = 0; i <= MOST_LINES && tokens.fine() && !tokens.is(END); i++) {
                readLine(tokens, tree);
            }
            return tokens.close();
        }

        private void readLine(Tokens tokens, Tree tree) {
            int word = tokens.kind;
            if (word < WORD_PULL || word > WORD_HOUR) {
                tokens.wrong(CANT_STAND);
            } else if (size >= MOST_LINES) {
                tokens.wrong(TOO_MANY);
            }
            if (!tokens.fine()) {
                return;
            }
            tokens.take();
            switch (word) {
                case WORD_PULL: readPull(tokens); break;
                case WORD_SLACK: add(SLACKENS, 0, 0); break;
                case WORD_LIFTS: add(IT_LIFTS, 0, 0); break;
                case WORD_HURL: readHurl(tokens, tree); break;
                case WORD_CLIMB: add(CLIMBS, tokens.takenName(tree, false), 0); break;
                case WORD_POKE: add(POKES, tokens.takenName(tree, false), 0); break;
                default: add(HOUR_BEGINS, tokens.oneOf(WORD_NORTH, SIDES), 0); break;
            }
            tokens.expect(SIGN + ';');
        }

        private void readPull(Tokens tokens) {
            int side = tokens.oneOf(WORD_NORTH, SIDES);
            int hard = tokens.oneOf(WORD_SOFT, 2);
            int how = tokens.oneOf(WORD_RUNS, 3);
            add(hard == 1 ? PULL_HARD : PULL_SOFT, side, how);
        }

        private void readHurl(Tokens tokens, Tree tree) {
            int thing = tokens.takenName(tree, true);
            int how = COMES_DOWN;
            if (tokens.took(WORD_STICKS)) {
                how = STICKS;
            } else if (tokens.took(WORD_FREES)) {
                how = FREES;
            } else {
                tokens.expect(WORD_DOWN);
            }
            add(HURLS, thing, how);
        }

        private void add(int whatIs, int whomIs, int endIs) {
            put(what, size, whatIs);
            put(whom, size, whomIs);
            put(end, size, endIs);
            size++;
        }

        /** Goes through the AFTERNOON from the TREE's beginning: the first line that can't be. */
        int judge(Tree tree, Now scratch) {
            int first = NONE;
            scratch.begin(tree);
            for (int line = 0; line < size && line < MOST_LINES; line++) {
                boolean can = scratch.does(tree, at(what, line), at(whom, line), at(end, line));
                if (!can && first == NONE) {
                    first = line;
                }
            }
            return first;
        }
    }

    /** What to do NEXT: the greatest mean, each case reckoned once. */
    private static final class Planner {
        private static final int HANDS = 1 << MOST_THINGS;
        private static final int CASES = (TIGHTEST + 1) * HANDS;

        private final int[] known = new int[MOST_TRIES * MOST_STRUNG * CASES];
        private final int[] order = new int[MOST_STRUNG];
        private int wind;
        private int kiteWorth;

        /** From here on it is planned as it stands now. */
        void look(Tree tree, Now now) {
            wind = now.wind;
            kiteWorth = now.paper > 0 ? tree.number(KITE_WORTH) : 0;
            int many = 0;
            for (int position = 0; position < MOST_STRUNG; position++) {
                if (bit(now.over, position) == 1) {
                    put(order, many, tree.strungAt(position));
                    many++;
                }
            }
            Arrays.fill(known, NONE);
        }

        static int thousandths(int plan) {
            return plan / 16;
        }

        static int first(int plan) {
            return plan % 16;
        }

        /** The plan for a kite that is up. */
        int best(Tree tree, Now stands, int tries) {
            return plan(tree, tries, stands.strung(), stands.tight, stands.hand);
        }

        /** The greatest mean in thousandths, times 16, and the try that it begins with. */
        private int plan(Tree tree, int tries, int left, int tight, int hand) {
            int best = 1000 * (tree.handWorth(hand) + (left > 0 ? 0 : kiteWorth));
            int option = NEXT_STOP;
            if (tries <= 0 || left <= 0) {
                return best * 16 + option;
            }
            int place = (((tries - 1) * MOST_STRUNG + left - 1) * (TIGHTEST + 1) + tight) * HANDS + hand;
            if (at(known, place) != NONE) {
                return at(known, place);
            }
            for (int i = NEXT_STOP + 1; i < NEXT_ALL; i++) {
                int mean = mean(tree, i, tries - 1, left, tight, hand);
                if (mean > best) {
                    best = mean;
                    option = i;
                }
            }
            put(known, place, best * 16 + option);
            return best * 16 + option;
        }

        /** The mean by a try with so many tries behind it; NONE: it can't be. */
        private int mean(Tree tree, int option, int yet, int left, int tight, int hand) {
            if (option < NEXT_SLACK) {
                return pullMean(tree, option, yet, left, tight, hand);
            }
            if (option == NEXT_SLACK) {
                return tight > 0 ? thousandths(plan(tree, yet, left, tight - 1, hand)) : NONE;
            }
            if (option == NEXT_LIFT) {
                return liftMean(tree, yet, left, tight, hand);
            }
            return hurlMean(tree, option - NEXT_HURL, yet, left, tight, hand);
        }

        private int pullMean(Tree tree, int option, int yet, int left, int tight, int hand) {
            int side = (option - 1) % SIDES;
            boolean hard = option >= NEXT_HARD;
            int last = at(order, left - 1);
            int run = tree.runs(last, tight, side, hard);
            int tear = tree.tears(last, tight, side, hard);
            int sum = 0;
            if (run > 0) {
                sum += TEN * run * thousandths(plan(tree, yet, left - 1, 0, hand));
            }
            if (run < TEN && tear > 0) {
                sum += (TEN - run) * tear * 1000 * tree.handWorth(hand);
            }
            if (run < TEN && tear < TEN) {
                int tighter = Math.min(TIGHTEST, tight + (hard ? 2 : 1));
                sum += (TEN - run) * (TEN - tear) * thousandths(plan(tree, yet, left, tighter, hand));
            }
            return sum / (TEN * TEN);
        }

        private int liftMean(Tree tree, int yet, int left, int tight, int hand) {
            int lift = tree.number(LIFT);
            if (tight > 0 || lift <= 0 || wind != at(tree.side, at(order, left - 1))) {
                return NONE;
            }
            int sum = lift * thousandths(plan(tree, yet, left - 1, 0, hand));
            if (lift < TEN) {
                sum += (TEN - lift) * thousandths(plan(tree, yet, left, tight, hand));
            }
            return sum / TEN;
        }

        private int hurlMean(Tree tree, int thing, int yet, int left, int tight, int hand) {
            if (bit(hand, thing) == 0) {
                return NONE;
            }
            int stuck = at(tree.stuck, thing);
            int frees = at(tree.frees, thing);
            int sum = 0;
            if (stuck > 0) {
                sum += stuck * thousandths(plan(tree, yet, left, tight, hand & ~(1 << thing)));
            }
            if (frees > 0) {
                sum += frees * thousandths(plan(tree, yet, left - 1, 0, hand));
            }
            if (stuck + frees < TEN) {
                sum += (TEN - stuck - frees) * thousandths(plan(tree, yet, left, tight, hand));
            }
            return sum / TEN;
        }
    }

    /** AFTERNOONS by DRAWS, and what they need: what tore or stuck ahead of them doesn't count. */
    private static final class Draws {
        final Planner planner = new Planner();
        final Now scratch = new Now();
        private long g;
        int inAll;
        int torn;
        int stuck;

        void play(Tree tree, Now now, int seed, int many, int tries) {
            g = seed;
            inAll = 0;
            torn = 0;
            stuck = 0;
            planner.look(tree, now);
            for (int i = 0; i < many; i++) {
                scratch.restore(now.held());
                int option = NEXT_STOP + 1;
                for (int yet = tries; yet > 0 && scratch.kite == UP && option != NEXT_STOP; yet--) {
                    option = Planner.first(planner.best(tree, scratch, yet));
                    playTry(tree, option);
                }
                inAll += scratch.inAll(tree);
            }
        }

        private void playTry(Tree tree, int option) {
            if (option == NEXT_SLACK) {
                scratch.does(tree, SLACKENS, 0, 0);
            } else if (option == NEXT_LIFT) {
                if (belowTen() < tree.number(LIFT)) {
                    scratch.does(tree, IT_LIFTS, 0, 0);
                }
            } else if (option >= NEXT_HURL) {
                playHurl(tree, option - NEXT_HURL);
            } else if (option != NEXT_STOP) {
                playPull(tree, (option - 1) % SIDES, option >= NEXT_HARD);
            }
        }

        private void playPull(Tree tree, int side, boolean hard) {
            int last = scratch.last(tree);
            int tear = tree.tears(last, scratch.tight, side, hard);
            int end = BITES;
            if (belowTen() < tree.runs(last, scratch.tight, side, hard)) {
                end = RUNS;
            } else if (belowTen() < tear) {
                end = TEARS;
                torn++;
            }
            scratch.pulled(tree, side, hard, end);
        }

        private void playHurl(Tree tree, int thing) {
            int drawn = belowTen();
            int sticks = at(tree.stuck, thing);
            int end = COMES_DOWN;
            if (drawn < sticks) {
                end = STICKS;
                stuck++;
            } else if (drawn < sticks + at(tree.frees, thing)) {
                end = FREES;
            }
            scratch.hurled(tree, thing, end);
        }

        private int belowTen() {
            g = (g * 1103515245L + 12345L) % 2147483648L;
            return (int) (g / 65536 % TEN);
        }
    }
}
