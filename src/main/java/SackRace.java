import java.util.NoSuchElementException;

/** Sacks up a lane, as ../shared/DOC.md tells it; its words in capitals are used here too. */
public final class SackRace {
    public static final int NONE = -1;

    /** What a call answers if he is OUT, or if there is none of what was asked for. */
    private static final int LACKS = -2;

    private static final int MOST_BYTES = 700;
    private static final int MOST_STEPS = 120;
    private static final int MOST_UNDONE = 20;
    private static final int MOST_PACE = 9;
    private static final int MOST_SACK = 30;
    private static final int MOST_WEIGHT = 30;
    private static final int MOST_WIND = 60;
    private static final int MOST_LEGS = 40;
    private static final int MOST_STRETCHES = 6;
    private static final int MOST_MEN = 5;
    private static final int MOST_PLANS = 5;
    private static final int MOST_TENTHS = 99999;
    private static final int SACK_WITHOUT_LOAD = 8;
    private static final int DRAWS = 10;

    /** The kinds of rows that a TEXT tells, in the order of named(). */
    private static final int STRETCH = 0;
    private static final int MAN = 1;
    private static final int HOLD = 2;
    private static final int PLAN = 3;
    private static final int JUDGE = 4;

    /** Columns of a STRETCH. */
    private static final int STEPS = 0;
    private static final int SLOPE = 1;
    private static final int BEND = 2;
    private static final int WET = 3;

    /** Columns of a MAN. */
    private static final int WIND = 0;
    private static final int LEGS = 1;
    private static final int WEIGHT = 2;

    /** Columns of a HOLD. */
    private static final int COST = 0;
    private static final int SLIPS = 1;
    private static final int SHIFT = 2;

    /** Columns of a PLAN: its HOLD, then a pace for each STRETCH that there may be. */
    private static final int HELD_BY = 0;
    private static final int FIRST_PACE = 1;

    /** Columns of a JUDGE: how often one says so, if it was, and if it wasn't. */
    private static final int SAYS_IF_SO = 0;
    private static final int SAYS_IF_NOT = 1;

    /** The laws, in the order in which LANGUAGE has their words. */
    private static final int LAW_TIME = 0;
    private static final int LAW_COST = 1;
    private static final int LAW_ACHE = 2;
    private static final int LAW_GAIN = 3;
    private static final int LAW_TIRE = 4;
    private static final int LAW_HARM = 5;
    private static final int LAW_JAM = 6;
    private static final int LAW_WIDE = 7;

    /** The NAMES of E, in the order in which LANGUAGE has them. */
    private static final int GIVEN_PACE = 0;
    private static final int GIVEN_SLOPE = 1;
    private static final int GIVEN_HEAVY = 2;
    private static final int GIVEN_WEIGHT = 3;
    private static final int GIVEN_WIND = 4;
    private static final int GIVEN_LEGS = 5;
    private static final int GIVEN_DAMP = 6;
    private static final int GIVEN_CURVE = 7;

    /** What law() answers for an ERROR: the least long, which no E can be worth. */
    private static final long ERROR = 1L << 63;

    private final int[] tape = new int[MOST_BYTES];
    private int taped = 0;
    private final Parser parser = new Parser(tape);
    private Told told = new Told();
    private Told spare = new Told();

    private int sack = SACK_WITHOUT_LOAD;
    private boolean rain = false;
    private final Ground ground = new Ground(told);

    private final Walk racer = new Walk();
    private final Walk[] past = new Walk[MOST_UNDONE];
    private int undoable = 0;
    private final Walk image = new Walk();
    private boolean imaged = false;
    private int imageSack = 0;
    private boolean imageRain = false;

    private final Walk walk = new Walk();
    private final Search search = new Search(ground);
    private final Training training = new Training();
    private final Splits splits = new Splits();
    private final Turn turn = new Turn();

    public SackRace() {
        for (int i = 0; i < MOST_UNDONE; i++) {
            past[i] = new Walk();
        }
    }

    public int feed(int a, int b, int c, int d, int e) {
        if (taped + 20 > MOST_BYTES) {
            return NONE;
        }
        tapeNumber(a);
        tapeNumber(b);
        tapeNumber(c);
        tapeNumber(d);
        tapeNumber(e);
        return taped;
    }

    private void tapeNumber(int number) {
        for (int bits = 24; bits >= 0 && taped < MOST_BYTES; bits -= 8) {
            tape[taped] = (number >>> bits) & 255;
            taped++;
        }
    }

    public int text(int n) {
        if (n < 0 || n > taped) {
            return LACKS;
        }
        taped = 0;
        if (!parser.parse(spare, n)) {
            return NONE;
        }
        Told old = told;
        told = spare;
        spare = old;
        sack = told.load == NONE ? SACK_WITHOUT_LOAD : told.load;
        rain = false;
        racer.on = false;
        racer.last = told.seed == NONE ? 0 : told.seed;
        undoable = 0;
        imaged = false;
        splits.clear();
        training.forget();
        ground.lay(told);
        return told.lines;
    }

    public int fault(int what) {
        if (what == 0) {
            return parser.fault;
        }
        return what == 1 ? parser.place : NONE;
    }

    public int named(int what, int letters) {
        if (what < STRETCH || what > JUDGE) {
            return NONE;
        }
        return told.kinds[what].find(letters);
    }

    public int look(int stretch, int what) throws IndexOutOfBoundsException, NoSuchElementException {
        if (!told.has(STRETCH, stretch)) {
            throw new IndexOutOfBoundsException("no such stretch");
        }
        if (what < STEPS || what > WET) {
            throw new NoSuchElementException("no such what");
        }
        if (what == WET && rain) {
            return 1;
        }
        return told.at(STRETCH, stretch, what);
    }

    public int pace(int plan, int stretch) {
        if (!told.has(PLAN, plan)) {
            return NONE;
        }
        if (stretch == -1) {
            return told.at(PLAN, plan, HELD_BY);
        }
        return told.has(STRETCH, stretch) ? told.at(PLAN, plan, FIRST_PACE + stretch) : NONE;
    }

    public long law(int what, int man, int stretch, int pace) {
        if (what < LAW_TIME || what > LAW_ACHE || !told.has(MAN, man) || !told.has(STRETCH, stretch) || !isPace(pace)) {
            return ERROR;
        }
        makeReady(man);
        ground.give(stretch, pace, told.at(MAN, man, WIND), told.at(MAN, man, LEGS));
        return told.laws.worth(what);
    }

    public int run(int man, int plan, int what) {
        if (!canRun(man, plan) || what < 0 || what > 3) {
            return NONE;
        }
        walkAlong(man, plan, MOST_STEPS);
        return what == 3 ? walk.steps : walkTells(what);
    }

    public int split(int man, int plan, int stretch) {
        if (!canRun(man, plan) || !told.has(STRETCH, stretch)) {
            return NONE;
        }
        walkAlong(man, plan, told.stepsAhead(stretch + 1));
        return walkTells(0);
    }

    public boolean race(int man, int plan) {
        if (!canRun(man, plan)) {
            return false;
        }
        racer.begin(told, man, plan);
        undoable = 0;
        return true;
    }

    public int go(int n) {
        if (!racer.on || n < 0 || n > MOST_STEPS) {
            return NONE;
        }
        makeReady(racer.man);
        int went = 0;
        while (went < n && racer.isGoing(told)) {
            remember();
            racer.step(ground, true);
            went++;
        }
        return went;
    }

    /** The latest 20 STEPS alone can be undone, so the oldest of them makes room. */
    private void remember() {
        if (undoable >= MOST_UNDONE) {
            Walk oldest = past[0];
            for (int i = 1; i < MOST_UNDONE; i++) {
                past[i - 1] = past[i];
            }
            past[MOST_UNDONE - 1] = oldest;
            undoable = MOST_UNDONE - 1;
        }
        if (undoable >= 0) {
            past[undoable].take(racer);
            undoable++;
        }
    }

    public int now(int what) {
        if (!racer.on) {
            return NONE;
        }
        switch (what) {
            case 0: return racer.steps;
            case 1: return racer.tenths;
            case 2: return racer.wind;
            case 3: return racer.legs;
            case 4: return racer.slips;
            case 5: return racer.isGoing(told) ? 0 : racer.isOut() ? 2 : 1;
            case 6: return racer.isGoing(told) ? racer.nextPace(told) : 0;
            case 7: return racer.hold;
            default: return NONE;
        }
    }

    public boolean paced(int pace) {
        if (!racer.isGoing(told) || (pace != 0 && !isPace(pace))) {
            return false;
        }
        racer.ownPace = pace;
        return true;
    }

    public int shift(int hold) {
        if (!racer.isGoing(told) || !told.has(HOLD, hold) || hold == racer.hold) {
            return NONE;
        }
        int takes = told.at(HOLD, hold, SHIFT);
        racer.grip(told, hold);
        racer.tenths += takes;
        return takes;
    }

    public int undo() {
        if (undoable <= 0 || undoable > MOST_UNDONE) {
            return NONE;
        }
        undoable--;
        racer.take(past[undoable]);
        return undoable;
    }

    public boolean sack(int n) {
        if (n < 0 || n > MOST_SACK) {
            return false;
        }
        sack = n;
        return true;
    }

    public int rain(boolean is) {
        rain = is;
        int wet = 0;
        for (int i = 0; i < told.size(STRETCH); i++) {
            wet += rain ? 1 : told.at(STRETCH, i, WET);
        }
        return wet;
    }

    public int best(int man, int hold) {
        if (!canHold(man, hold)) {
            return NONE;
        }
        makeReady(man);
        return search.seek(man, hold, 0);
    }

    public int paces(int man, int hold, int stretch) {
        if (!canHold(man, hold) || !told.has(STRETCH, stretch)) {
            return NONE;
        }
        makeReady(man);
        return search.seek(man, hold, 0) == LACKS ? LACKS : search.paceIn(stretch);
    }

    public int quick(int man, int hold, int pace) {
        if (!canHold(man, hold) || !isPace(pace) || told.size(STRETCH) == 0) {
            return NONE;
        }
        makeReady(man);
        int least = search.seek(man, hold, 0);
        int quickest = search.seek(man, hold, pace);
        return quickest == LACKS ? LACKS : quickest - least;
    }

    public int safe(int man, int hold, int wind, int what) {
        if (!canHold(man, hold) || wind < 1 || wind > told.at(MAN, man, WIND) || !isPair(what)) {
            return NONE;
        }
        makeReady(man);
        int bestPace = LACKS;
        int bestTenths = LACKS;
        for (int pace = 1; pace <= MOST_PACE; pace++) {
            int tenths = steadyTenths(man, hold, told.at(MAN, man, WIND), pace);
            boolean less = tenths != LACKS && (bestPace == LACKS || tenths < bestTenths);
            if (less && isSafe(man, hold, wind, pace)) {
                bestPace = pace;
                bestTenths = tenths;
            }
        }
        return what == 0 ? bestPace : bestTenths;
    }

    private boolean isSafe(int man, int hold, int wind, int pace) {
        for (int top = wind; top < told.at(MAN, man, WIND); top++) {
            if (steadyTenths(man, hold, top, pace) == LACKS) {
                return false;
            }
        }
        return true;
    }

    private int steadyTenths(int man, int hold, int top, int pace) {
        walk.stand(top, top, told.at(MAN, man, LEGS), told.at(HOLD, hold, COST));
        for (int i = 0; i < told.size(STRETCH); i++) {
            walk.tread(ground, i, pace, ground.stepsOf(i));
        }
        return walk.isOut() ? LACKS : walk.tenths;
    }

    public int held(int man, int what) {
        if (!told.has(MAN, man) || !isPair(what) || told.size(HOLD) == 0) {
            return NONE;
        }
        makeReady(man);
        int bestHold = LACKS;
        int bestTenths = LACKS;
        for (int hold = 0; hold < told.size(HOLD); hold++) {
            int tenths = search.seek(man, hold, 0);
            if (tenths != LACKS && (bestHold == LACKS || tenths < bestTenths)) {
                bestHold = hold;
                bestTenths = tenths;
            }
        }
        return what == 0 ? bestHold : bestTenths;
    }

    public int weighed(int man, int hold, int n, int what) {
        if (!canHold(man, hold) || n < 0 || n > 10 || !isPair(what)) {
            return NONE;
        }
        int own = told.at(MAN, man, WEIGHT);
        int bestWeight = LACKS;
        int bestTenths = LACKS;
        for (int weight = Math.max(1, own - n); weight <= Math.min(MOST_WEIGHT, own + n); weight++) {
            ground.lieUnder(weight, sack, rain, false);
            int tenths = search.seek(man, hold, 0);
            if (tenths != LACKS && (bestWeight == LACKS || tenths < bestTenths)) {
                bestWeight = weight;
                bestTenths = tenths;
            }
        }
        return what == 0 ? bestWeight : bestTenths;
    }

    public int flat(int man, int hold) {
        if (!canHold(man, hold)) {
            return NONE;
        }
        ground.lieUnder(told.at(MAN, man, WEIGHT), sack, rain, true);
        return search.seek(man, hold, 0);
    }

    public int alike(int man, int hold, int tenths) {
        if (!canHold(man, hold) || tenths < 0 || tenths > 9999) {
            return NONE;
        }
        for (int heavy = MOST_SACK; heavy >= 0; heavy--) {
            ground.lieUnder(told.at(MAN, man, WEIGHT), heavy, rain, false);
            int takes = search.seek(man, hold, 0);
            if (takes != LACKS && takes <= tenths) {
                return heavy;
            }
        }
        return LACKS;
    }

    public int trained(int man, int n, int harm, int what) {
        if (!told.has(MAN, man) || n < 1 || n > 6 || harm < 0 || harm > 999 || what < 0 || what > 2) {
            return -999;
        }
        training.seek(told.laws, told.at(MAN, man, WEIGHT), n, harm);
        if (!training.found) {
            return what == 0 ? -99 : NONE;
        }
        if (what == 0) {
            return training.bestForm;
        }
        return what == 1 ? training.bestHarm : training.bestLoads;
    }

    public int note(int man, int plan, int stretch, int tenths) {
        if (!canRun(man, plan) || !told.has(STRETCH, stretch) || tenths < 0 || tenths > MOST_TENTHS) {
            return NONE;
        }
        return splits.add(man, plan, stretch, tenths);
    }

    public int strike(int split) {
        return split < 0 || split >= splits.size ? NONE : splits.add(Splits.STRIKE, 0, 0, split);
    }

    public boolean known(int n) {
        if (n < -1 || n > splits.size) {
            return false;
        }
        splits.know(n);
        return true;
    }

    public int fits(int man, int what) {
        if (!told.has(MAN, man) || what < 0 || what > 4) {
            return NONE;
        }
        makeReady(man);
        splits.fit(ground, walk, man);
        return splits.tells(what);
    }

    public int wins(int seed, int men, int plan, int man) {
        if (seed < 0 || !areMen(men) || !canRun(man, plan) || ((men >> man) & 1) == 0) {
            return NONE;
        }
        walk.last = seed;
        int won = 0;
        for (int draw = 0; draw < DRAWS; draw++) {
            int winner = NONE;
            int least = 0;
            for (int i = 0; i < told.size(MAN); i++) {
                boolean up = ((men >> i) & 1) != 0 && drawRace(i, plan);
                if (up && (winner == NONE || walk.tenths < least)) {
                    winner = i;
                    least = walk.tenths;
                }
            }
            won += winner == man ? 1 : 0;
        }
        return won;
    }

    /** Whether he comes up; the numbers go on from the last one of the race ahead. */
    private boolean drawRace(int man, int plan) {
        makeReady(man);
        walk.begin(told, man, plan);
        for (int i = 0; i < MOST_STEPS && walk.isGoing(told); i++) {
            walk.step(ground, true);
        }
        return !walk.isOut();
    }

    public int beats(int seed, int man, int plan, int tenths) {
        if (seed < 0 || !canRun(man, plan) || tenths < 0 || tenths > MOST_TENTHS) {
            return NONE;
        }
        walk.last = seed;
        int beaten = 0;
        for (int i = 0; i < DRAWS; i++) {
            if (drawRace(man, plan) && walk.tenths <= tenths) {
                beaten++;
            }
        }
        return beaten;
    }

    public int led(int man, int plan, int n, int what) {
        if (!canRun(man, plan) || n < 0 || n > told.stepsAhead(told.size(STRETCH)) || what < 0 || what > 2) {
            return NONE;
        }
        walkAlong(man, plan, n);
        return walkTells(what);
    }

    public int rests(int men, int stretch) {
        if (!areMen(men) || !isBend(stretch)) {
            return NONE;
        }
        layTurn(men, stretch);
        int found = 0;
        for (int inside = 0; inside < 1 << MOST_MEN; inside++) {
            found += turn.isRest(inside) ? 1 : 0;
        }
        return found;
    }

    public int rest(int men, int stretch, int k) {
        if (!areMen(men) || !isBend(stretch) || k < 0) {
            return NONE;
        }
        layTurn(men, stretch);
        int ahead = 0;
        for (int inside = 0; inside < 1 << MOST_MEN; inside++) {
            boolean is = turn.isRest(inside);
            if (is && ahead == k) {
                return inside;
            }
            ahead += is ? 1 : 0;
        }
        return LACKS;
    }

    public int corner(int men, int stretch, int what) {
        if (!areMen(men) || !isBend(stretch) || !isPair(what)) {
            return NONE;
        }
        layTurn(men, stretch);
        int least = turn.least();
        return what == 0 ? turn.sum(least) : least;
    }

    private void layTurn(int men, int stretch) {
        turn.men = men;
        for (int i = 0; i < told.size(MAN) && i < MOST_MEN; i++) {
            makeReady(i);
            ground.give(stretch, 0, told.at(MAN, i, WIND), told.at(MAN, i, LEGS));
            turn.jam[i] = told.laws.within(LAW_JAM, 0, 999, 5);
            turn.wide[i] = told.laws.within(LAW_WIDE, 0, 999, 6);
        }
    }

    public long down(int ofHundred, int asked, int say, int what) {
        int all = (1 << told.size(JUDGE)) - 1;
        if (ofHundred < 0 || ofHundred > 100 || (asked & ~all) != 0 || (say & ~asked) != 0 || !isPair(what)) {
            return NONE;
        }
        long above = ofHundred * chanceToSay(asked, say, SAYS_IF_SO);
        long below = above + (100 - ofHundred) * chanceToSay(asked, say, SAYS_IF_NOT);
        if (above == 0) {
            return what;
        }
        long common = commonDivisor(below, above);
        return (what == 0 ? above : below) / (common > 0 ? common : 1);
    }

    /** How likely those asked say just that, as a number above 100 to the power of how many they are. */
    private long chanceToSay(int asked, int say, int column) {
        long chance = 1;
        for (int i = 0; i < told.size(JUDGE); i++) {
            int often = told.at(JUDGE, i, column);
            if (((asked >> i) & 1) != 0) {
                chance *= ((say >> i) & 1) != 0 ? often : 100 - often;
            }
        }
        return chance;
    }

    /** Numbers below 10 to the 11 need some fifty rounds at most. */
    private static long commonDivisor(long a, long b) {
        long greater = a;
        long less = b;
        for (int i = 0; i < 100 && less != 0; i++) {
            long left = greater % less;
            greater = less;
            less = left;
        }
        return greater;
    }

    public int errors(int k, int what) {
        if (k < 0 || k > 5 || !isPair(what)) {
            return NONE;
        }
        return what == 0 ? missed(k) : wronged(k);
    }

    private int missed(int k) {
        int all = (1 << told.size(JUDGE)) - 1;
        long sum = 0;
        for (int say = 0; say <= all; say++) {
            sum += Integer.bitCount(say) < k ? chanceToSay(all, say, SAYS_IF_SO) : 0;
        }
        return (int) sum;
    }

    private int wronged(int k) {
        int all = (1 << told.size(JUDGE)) - 1;
        long sum = 0;
        for (int say = 0; say <= all; say++) {
            sum += Integer.bitCount(say) >= k ? chanceToSay(all, say, SAYS_IF_NOT) : 0;
        }
        return (int) sum;
    }

    public int rule() {
        int best = 0;
        int least = missed(0) + wronged(0);
        for (int k = 1; k <= 5; k++) {
            int sum = missed(k) + wronged(k);
            if (sum < least) {
                best = k;
                least = sum;
            }
        }
        return best;
    }

    public int keep() {
        image.take(racer);
        imageSack = sack;
        imageRain = rain;
        imaged = true;
        return racer.on ? racer.steps : LACKS;
    }

    public int back() {
        if (!imaged) {
            return NONE;
        }
        racer.take(image);
        sack = imageSack;
        rain = imageRain;
        undoable = 0;
        return racer.on ? racer.steps : LACKS;
    }

    public int count(int what) {
        switch (what) {
            case 0: return told.size(STRETCH);
            case 1: return told.size(MAN);
            case 2: return told.size(HOLD);
            case 3: return told.size(PLAN);
            case 4: return told.laws.knots;
            case 5: return told.stepsAhead(told.size(STRETCH));
            case 6: return splits.size;
            case 7: return splits.knownSize();
            case 8: return undoable;
            case 9: return sack;
            case 10: return told.size(JUDGE);
            default: return NONE;
        }
    }

    private static boolean isPace(int pace) {
        return pace >= 1 && pace <= MOST_PACE;
    }

    private static boolean isPair(int what) {
        return what == 0 || what == 1;
    }

    private boolean canRun(int man, int plan) {
        return told.has(MAN, man) && told.has(PLAN, plan);
    }

    private boolean canHold(int man, int hold) {
        return told.has(MAN, man) && told.has(HOLD, hold);
    }

    private boolean areMen(int men) {
        return men > 0 && men < 1 << told.size(MAN);
    }

    private boolean isBend(int stretch) {
        return told.has(STRETCH, stretch) && told.at(STRETCH, stretch, BEND) != 0;
    }

    private void makeReady(int man) {
        ground.lieUnder(told.at(MAN, man, WEIGHT), sack, rain, false);
    }

    /** A RUN of so many STEPS, as far as he isn't OUT. */
    private void walkAlong(int man, int plan, int steps) {
        makeReady(man);
        walk.begin(told, man, plan);
        for (int i = 0; i < steps && walk.isGoing(told); i++) {
            walk.step(ground, false);
        }
    }

    private int walkTells(int what) {
        if (walk.isOut()) {
            return LACKS;
        }
        if (what == 0) {
            return walk.tenths;
        }
        return what == 1 ? walk.wind : walk.legs;
    }

    /** The TAPE's bytes as TOKENS, one at a time. */
    private static final class Tokens {
        /** Kinds of TOKENS; those from NOT to BY are the signs of E as well. */
        static final int NUMBER = 0;
        static final int NAME = 1;
        static final int NOT = 2;
        static final int OR = 3;
        static final int AND = 4;
        static final int LESS = 5;
        static final int AT_MOST = 6;
        static final int EQUAL = 7;
        static final int UNLIKE = 8;
        static final int AT_LEAST = 9;
        static final int MORE = 10;
        static final int PLUS = 11;
        static final int MINUS = 12;
        static final int TIMES = 13;
        static final int BY = 14;
        static final int OPEN = 15;
        static final int CLOSE = 16;
        static final int SEMICOLON = 17;
        static final int WORD = 18;
        static final int BAD = 19;
        static final int END = 20;

        /** Where LANGUAGE has its words. */
        static final int WORDS_OF_LAWS = 0;
        static final int WORDS_OF_NAMES = 8;
        static final int WORD_LANE = 16;
        static final int WORD_MAN = 17;
        static final int WORD_HOLD = 18;
        static final int WORD_PLAN = 19;
        static final int WORD_JUDGE = 20;
        static final int WORD_LOAD = 21;
        static final int WORD_SEED = 22;
        static final int WORD_LAW = 23;
        static final int WORD_BEND = 24;
        static final int WORD_WET = 25;
        static final int WORD_OR = 26;
        static final int WORD_AND = 27;
        static final int WORD_NOT = 28;

        /** The words by their letters, as named() has them. */
        private static final int[] LANGUAGE = {
            680956928, 117035008, 36967424, 236238848, // time cost ache gain
            681120768, 270087168, 337018880, 781325312, // tire harm jam wide
            538022912, 650625184, 273734432, 777297172, // pace slope heavy weight
            781651968, 408144896, 135708672, 123295904, // wind legs damp curve
            404165632, 437714944, 284561408, 549500928, // lane man hold plan
            357702816, 418418688, 642945024, 404455424, // judge load seed law
            72814592, 777650176, // bend wet
            522190848, 48365568, 486146048 // or and not
        };

        private static final int MOST_LETTERS = 6;
        private static final int BEYOND_ALL_NUMBERS = 1000000;

        private final int[] bytes;
        private int end = 0;
        private int at = 0;

        int kind = END;
        int place = 0;
        /** Of a number its worth, of a word its letters, of a NAME which one it is. */
        int value = 0;
        /** Of a word where LANGUAGE has it, or NONE. */
        int word = NONE;

        Tokens(int[] bytes) {
            this.bytes = bytes;
        }

        void begin(int n) {
            at = 0;
            end = Math.min(n, bytes.length);
        }

        void next() {
            while (at < end && (bytes[at] == 32 || bytes[at] == 10)) {
                at++;
            }
            place = at;
            word = NONE;
            if (at >= end) {
                kind = END;
            } else if (isLetter(bytes[at])) {
                readWord();
            } else if (isDigit(bytes[at])) {
                readNumber();
            } else {
                readSign();
            }
        }

        private static boolean isLetter(int sign) {
            return sign >= 'a' && sign <= 'z';
        }

        private static boolean isDigit(int sign) {
            return sign >= '0' && sign <= '9';
        }

        /** A word that can be one's name: none of the language. */
        boolean isName() {
            return kind == WORD && word == NONE;
        }

        private void readWord() {
            int letters = 0;
            value = 0;
            while (at < end && isLetter(bytes[at])) {
                if (letters < MOST_LETTERS) {
                    value |= (bytes[at] - 'a' + 1) << (25 - 5 * letters);
                }
                letters++;
                at++;
            }
            kind = letters <= MOST_LETTERS ? WORD : BAD;
            if (kind == WORD) {
                knowWord();
            }
        }

        private void knowWord() {
            for (int i = 0; i < LANGUAGE.length; i++) {
                if (LANGUAGE[i] == value) {
                    word = i;
                }
            }
            if (word >= WORDS_OF_NAMES && word < WORD_LANE) {
                kind = NAME;
                value = word - WORDS_OF_NAMES;
            } else if (word == WORD_OR) {
                kind = OR;
            } else if (word == WORD_AND) {
                kind = AND;
            } else if (word == WORD_NOT) {
                kind = NOT;
            }
        }

        private void readNumber() {
            kind = NUMBER;
            value = 0;
            while (at < end && isDigit(bytes[at])) {
                value = Math.min(value * 10 + bytes[at] - '0', BEYOND_ALL_NUMBERS);
                at++;
            }
        }

        private void readSign() {
            int sign = bytes[at];
            at++;
            switch (sign) {
                case '<': kind = take('=') ? AT_MOST : take('>') ? UNLIKE : LESS; break;
                case '>': kind = take('=') ? AT_LEAST : MORE; break;
                case '=': kind = EQUAL; break;
                case '+': kind = PLUS; break;
                case '-': kind = MINUS; break;
                case '*': kind = TIMES; break;
                case '/': kind = BY; break;
                case '(': kind = OPEN; break;
                case ')': kind = CLOSE; break;
                case ';': kind = SEMICOLON; break;
                default: kind = BAD; break;
            }
        }

        private boolean take(int sign) {
            if (at >= end || bytes[at] != sign) {
                return false;
            }
            at++;
            return true;
        }
    }

    /** Reads a TEXT; the first FAULT ends it. */
    private static final class Parser {
        private static final int MISPLACED = 1;
        private static final int TOO_MUCH = 2;
        private static final int TOLD_ALREADY = 3;
        private static final int HOLD_NOT_TOLD = 4;

        private static final int MOST_OPEN = 8;
        private static final int MOST_NUMBER = 9999;
        private static final int MOST_SEED = 99999;

        /** How many numbers a row of each kind begins with, and what they may be: three places a kind. */
        private static final int[] NUMBERS = {2, 3, 3, 0, 2};
        private static final int[] LOWS = {1, 0, 0, 1, 1, 1, 0, 0, 0, 0, 0, 0, 0, 0, 0};
        private static final int[] HIGHS = {20, 9, 0, 60, 40, 30, 9, 99, 99, 0, 0, 0, 100, 100, 0};

        /** How tightly the signs from NUMBER to OPEN bind. */
        private static final int[] LEVELS = {0, 0, 3, 1, 2, 4, 4, 4, 4, 4, 4, 5, 5, 6, 6, 0};
        private static final int COMPARED = 4;

        private final Tokens tokens;
        /** Signs and brackets of an E whose right side isn't read yet. */
        private final int[] waiting = new int[Laws.MOST_KNOTS + MOST_OPEN];
        private int waits = 0;
        private int open = 0;
        private boolean valueDue = true;
        private boolean notMayStand = true;

        int fault = 0;
        int place = NONE;

        Parser(int[] bytes) {
            tokens = new Tokens(bytes);
        }

        boolean parse(Told into, int n) {
            tokens.begin(n);
            into.clear();
            fault = 0;
            place = NONE;
            for (int i = 0; i <= MOST_BYTES; i++) {
                tokens.next();
                if (tokens.kind == Tokens.END) {
                    return true;
                }
                if (!readLine(into)) {
                    return false;
                }
                into.lines++;
            }
            return refuse(MISPLACED);
        }

        private boolean refuse(int why) {
            fault = why;
            place = tokens.place;
            return false;
        }

        private boolean readLine(Told into) {
            switch (tokens.word) {
                case Tokens.WORD_LANE: return readRow(into, STRETCH);
                case Tokens.WORD_MAN: return readRow(into, MAN);
                case Tokens.WORD_HOLD: return readRow(into, HOLD);
                case Tokens.WORD_PLAN: return readRow(into, PLAN);
                case Tokens.WORD_JUDGE: return readRow(into, JUDGE);
                case Tokens.WORD_LOAD:
                    into.load = readLone(into.load, MOST_SACK);
                    return into.load != NONE;
                case Tokens.WORD_SEED:
                    into.seed = readLone(into.seed, MOST_SEED);
                    return into.seed != NONE;
                case Tokens.WORD_LAW: return readLaw(into.laws);
                default: return refuse(MISPLACED);
            }
        }

        /** A row counts only when its LINE is whole. */
        private boolean readRow(Told into, int kind) {
            Rows rows = into.kinds[kind];
            if (rows.size >= rows.most) {
                return refuse(TOO_MUCH);
            }
            tokens.next();
            if (!tokens.isName()) {
                return refuse(MISPLACED);
            }
            if (rows.find(tokens.value) != NONE) {
                return refuse(TOLD_ALREADY);
            }
            rows.open(tokens.value);
            for (int i = 0; i < NUMBERS[kind]; i++) {
                tokens.next();
                if (!isNumber(LOWS[3 * kind + i], HIGHS[3 * kind + i])) {
                    return false;
                }
                rows.put(i, tokens.value);
            }
            if (kind == PLAN && !readHold(into)) {
                return false;
            }
            tokens.next();
            if (kind == STRETCH) {
                readMarks(rows);
            }
            return (kind != PLAN || readPaces(rows)) && ends() && rows.close();
        }

        private void readMarks(Rows stretches) {
            if (tokens.word == Tokens.WORD_BEND) {
                stretches.put(BEND, 1);
                tokens.next();
            }
            if (tokens.word == Tokens.WORD_WET) {
                stretches.put(WET, 1);
                tokens.next();
            }
        }

        private boolean readHold(Told into) {
            tokens.next();
            if (!tokens.isName()) {
                return refuse(MISPLACED);
            }
            int hold = into.kinds[HOLD].find(tokens.value);
            into.kinds[PLAN].put(HELD_BY, hold);
            return hold != NONE || refuse(HOLD_NOT_TOLD);
        }

        /** One pace at least; the last one counts for all STRETCHES that are left. */
        private boolean readPaces(Rows plans) {
            for (int i = 0; i < MOST_STRETCHES && (i == 0 || tokens.kind == Tokens.NUMBER); i++) {
                if (!isNumber(1, MOST_PACE)) {
                    return false;
                }
                for (int stretch = i; stretch < MOST_STRETCHES; stretch++) {
                    plans.put(FIRST_PACE + stretch, tokens.value);
                }
                tokens.next();
            }
            return tokens.kind != Tokens.NUMBER || refuse(TOO_MUCH);
        }

        /** The one number of load or seed, which must not be told yet. */
        private int readLone(int told, int most) {
            if (told != NONE) {
                refuse(TOLD_ALREADY);
                return NONE;
            }
            tokens.next();
            if (!isNumber(0, most)) {
                return NONE;
            }
            int number = tokens.value;
            tokens.next();
            return ends() ? number : NONE;
        }

        private boolean isNumber(int low, int high) {
            if (tokens.kind != Tokens.NUMBER) {
                return refuse(MISPLACED);
            }
            return tokens.value >= low && tokens.value <= high || refuse(TOO_MUCH);
        }

        private boolean ends() {
            return tokens.kind == Tokens.SEMICOLON || refuse(MISPLACED);
        }

        private boolean readLaw(Laws laws) {
            tokens.next();
            int kind = tokens.word - Tokens.WORDS_OF_LAWS;
            if (kind < LAW_TIME || kind > LAW_WIDE) {
                return refuse(MISPLACED);
            }
            if (laws.has(kind)) {
                return refuse(TOLD_ALREADY);
            }
            laws.open(kind);
            return readExpression(laws) && laws.close(kind);
        }

        /** Signs wait until what stands behind them binds no tighter, so that knots come values first. */
        private boolean readExpression(Laws laws) {
            waits = 0;
            open = 0;
            valueDue = true;
            notMayStand = true;
            for (int i = 0; i <= MOST_BYTES; i++) {
                tokens.next();
                if (tokens.kind == Tokens.SEMICOLON && !valueDue && open == 0) {
                    settle(laws, 1);
                    return true;
                }
                if (valueDue ? !readValue(laws) : !readBehindValue(laws)) {
                    return false;
                }
            }
            return refuse(MISPLACED);
        }

        private boolean readValue(Laws laws) {
            switch (tokens.kind) {
                case Tokens.NUMBER:
                case Tokens.NAME:
                    if (tokens.value > MOST_NUMBER || !laws.countKnot()) {
                        return refuse(TOO_MUCH);
                    }
                    laws.add(tokens.kind, tokens.value);
                    valueDue = false;
                    return true;
                case Tokens.NOT:
                    if (!notMayStand) {
                        return refuse(MISPLACED);
                    }
                    return laws.countKnot() ? letWait(Tokens.NOT) : refuse(TOO_MUCH);
                case Tokens.OPEN:
                    if (open >= MOST_OPEN) {
                        return refuse(TOO_MUCH);
                    }
                    open++;
                    notMayStand = true;
                    return letWait(Tokens.OPEN);
                default:
                    return refuse(MISPLACED);
            }
        }

        private boolean readBehindValue(Laws laws) {
            int sign = tokens.kind;
            if (sign == Tokens.CLOSE && open > 0) {
                settle(laws, 1);
                waits--;
                open--;
                return true;
            }
            if (sign < Tokens.OR || sign > Tokens.BY) {
                return refuse(MISPLACED);
            }
            int level = LEVELS[sign];
            settle(laws, level == COMPARED ? COMPARED + 1 : level);
            if (level == COMPARED && waits > 0 && LEVELS[waiting[waits - 1]] == COMPARED) {
                return refuse(MISPLACED);
            }
            if (!laws.countKnot()) {
                return refuse(TOO_MUCH);
            }
            valueDue = true;
            notMayStand = level < COMPARED;
            return letWait(sign);
        }

        private boolean letWait(int sign) {
            if (waits >= waiting.length) {
                return refuse(TOO_MUCH);
            }
            waiting[waits] = sign;
            waits++;
            return true;
        }

        private void settle(Laws laws, int level) {
            while (waits > 0 && LEVELS[waiting[waits - 1]] >= level) {
                waits--;
                laws.add(waiting[waits], 0);
            }
        }
    }

    /** The laws: the KNOTS of their E, values first, and what the NAMES are worth just now. */
    private static final class Laws {
        static final int MOST_KNOTS = 64;
        private static final int KINDS = 8;
        private static final int NAMES = 8;
        private static final long MOST_VALUE = 1000000000000L;

        private final int[] signs = new int[MOST_KNOTS];
        private final int[] values = new int[MOST_KNOTS];
        private int size = 0;
        private final int[] from = new int[KINDS];
        private final int[] to = new int[KINDS];
        private final long[] stack = new long[MOST_KNOTS];

        final long[] given = new long[NAMES];
        final boolean[] uses = new boolean[NAMES];
        int knots = 0;

        void clear() {
            size = 0;
            knots = 0;
            for (int i = 0; i < KINDS; i++) {
                from[i] = 0;
                to[i] = 0;
            }
            for (int i = 0; i < NAMES; i++) {
                uses[i] = false;
            }
        }

        boolean has(int kind) {
            return kind >= 0 && kind < KINDS && to[kind] > from[kind];
        }

        void open(int kind) {
            from[kind] = size;
        }

        boolean close(int kind) {
            to[kind] = size;
            return true;
        }

        boolean countKnot() {
            if (knots >= MOST_KNOTS) {
                return false;
            }
            knots++;
            return true;
        }

        void add(int sign, int value) {
            if (size >= MOST_KNOTS) {
                return;
            }
            signs[size] = sign;
            values[size] = value;
            size++;
            if (sign == Tokens.NAME && value >= 0 && value < NAMES) {
                uses[value] = true;
            }
        }

        /** What E is worth as the NAMES are given; ERROR also without a law. */
        long worth(int kind) {
            if (!has(kind)) {
                return ERROR;
            }
            int top = 0;
            for (int i = from[kind]; i < to[kind] && i < MOST_KNOTS && top < MOST_KNOTS; i++) {
                int sign = signs[i];
                if (sign == Tokens.NUMBER) {
                    stack[top] = values[i];
                    top++;
                } else if (sign == Tokens.NAME) {
                    stack[top] = given[values[i] & (NAMES - 1)];
                    top++;
                } else if (sign == Tokens.NOT && top >= 1) {
                    stack[top - 1] = stack[top - 1] == 0 ? 1 : 0;
                } else if (top >= 2) {
                    long value = join(sign, stack[top - 2], stack[top - 1]);
                    if (value > MOST_VALUE || value < -MOST_VALUE) {
                        return ERROR;
                    }
                    top--;
                    stack[top - 1] = value;
                }
            }
            return stack[0];
        }

        private static long join(int sign, long a, long b) {
            switch (sign) {
                case Tokens.OR: return a != 0 || b != 0 ? 1 : 0;
                case Tokens.AND: return a != 0 && b != 0 ? 1 : 0;
                case Tokens.LESS: return a < b ? 1 : 0;
                case Tokens.AT_MOST: return a <= b ? 1 : 0;
                case Tokens.EQUAL: return a == b ? 1 : 0;
                case Tokens.UNLIKE: return a != b ? 1 : 0;
                case Tokens.AT_LEAST: return a >= b ? 1 : 0;
                case Tokens.MORE: return a > b ? 1 : 0;
                case Tokens.PLUS: return a + b;
                case Tokens.MINUS: return a - b;
                case Tokens.TIMES:
                    // a product of two values may be beyond a long, so the bound is looked at ahead of it
                    long most = a == 0 ? MOST_VALUE : MOST_VALUE / (a < 0 ? -a : a);
                    return b > most || b < -most ? ERROR : a * b;
                case Tokens.BY: return b == 0 ? ERROR : a / b;
                default: return ERROR;
            }
        }

        int within(int kind, int low, int high, int without) {
            long value = worth(kind);
            if (value == ERROR) {
                return without;
            }
            return value < low ? low : value > high ? high : (int) value;
        }
    }

    /** Rows of one kind: a name and numbers each. */
    private static final class Rows {
        final int most;
        private final int width;
        private final int[] names;
        private final int[] cells;
        int size = 0;

        Rows(int most, int width) {
            this.most = most;
            this.width = width;
            names = new int[most];
            cells = new int[most * width];
        }

        int find(int name) {
            for (int i = 0; i < size && i < most; i++) {
                if (names[i] == name) {
                    return i;
                }
            }
            return NONE;
        }

        /** The row behind the last one, all of it 0; it counts when it is closed. */
        void open(int name) {
            if (size >= most) {
                return;
            }
            names[size] = name;
            for (int i = 0; i < width; i++) {
                cells[size * width + i] = 0;
            }
        }

        void put(int column, int value) {
            if (size < most && column >= 0 && column < width) {
                cells[size * width + column] = value;
            }
        }

        boolean close() {
            size++;
            return true;
        }

        int at(int row, int column) {
            boolean is = row >= 0 && row < size && row < most && column >= 0 && column < width;
            return is ? cells[row * width + column] : 0;
        }
    }

    /** All that a TEXT tells. */
    private static final class Told {
        final Rows[] kinds = {
            new Rows(MOST_STRETCHES, 4), new Rows(MOST_MEN, 3), new Rows(3, 3),
            new Rows(MOST_PLANS, FIRST_PACE + MOST_STRETCHES), new Rows(4, 2)
        };
        final Laws laws = new Laws();
        /** NONE: not told. */
        int load = NONE;
        int seed = NONE;
        int lines = 0;

        void clear() {
            for (int i = 0; i < kinds.length; i++) {
                kinds[i].size = 0;
            }
            laws.clear();
            load = NONE;
            seed = NONE;
            lines = 0;
        }

        int size(int kind) {
            return kind >= 0 && kind < kinds.length ? kinds[kind].size : 0;
        }

        boolean has(int kind, int row) {
            return kind >= 0 && kind < kinds.length && row >= 0 && row < kinds[kind].size;
        }

        int at(int kind, int row, int column) {
            return has(kind, row) ? kinds[kind].at(row, column) : 0;
        }

        /** STEPS of all STRETCHES ahead of one. */
        int stepsAhead(int stretch) {
            int steps = 0;
            for (int i = 0; i < stretch && i < size(STRETCH); i++) {
                steps += at(STRETCH, i, STEPS);
            }
            return steps;
        }
    }

    /** What a STEP takes under a weight, a SACK and rain; worked out once while these stay. */
    private static final class Ground {
        private static final int SLOTS = 4096;

        Told told;
        private int weight = 0;
        private int sack = 0;
        private boolean rain = false;
        private boolean flat = false;
        /** Another one whenever anything changes that a STEP could depend on. */
        int age = 1;

        /** The STRETCHES as they are under all this. */
        final int[] steps = new int[MOST_STRETCHES];
        private final int[] slopes = new int[MOST_STRETCHES];
        final int[] damp = new int[MOST_STRETCHES];
        private final int[] curves = new int[MOST_STRETCHES];

        private final long[] keys = new long[SLOTS];
        private final int[] takes = new int[SLOTS];

        Ground(Told told) {
            this.told = told;
        }

        void lay(Told other) {
            told = other;
            spread();
        }

        /** A weight or SACK that no law names makes no STEP another one. */
        void lieUnder(int newWeight, int newSack, boolean newRain, boolean newFlat) {
            int weighs = told.laws.uses[GIVEN_WEIGHT] ? newWeight : 0;
            int heavy = told.laws.uses[GIVEN_HEAVY] ? newSack : 0;
            if (weighs == weight && heavy == sack && newRain == rain && newFlat == flat) {
                return;
            }
            weight = weighs;
            sack = heavy;
            rain = newRain;
            flat = newFlat;
            spread();
        }

        private void spread() {
            for (int i = 0; i < MOST_STRETCHES; i++) {
                steps[i] = told.at(STRETCH, i, STEPS);
                slopes[i] = flat ? 0 : told.at(STRETCH, i, SLOPE);
                damp[i] = rain ? 1 : told.at(STRETCH, i, WET);
                curves[i] = told.at(STRETCH, i, BEND);
            }
            age++;
        }

        int stepsOf(int stretch) {
            return stretch >= 0 && stretch < MOST_STRETCHES ? steps[stretch] : 0;
        }

        void give(int stretch, int pace, int wind, int legs) {
            if (stretch < 0 || stretch >= MOST_STRETCHES) {
                return;
            }
            long[] given = told.laws.given;
            given[GIVEN_PACE] = pace;
            given[GIVEN_SLOPE] = slopes[stretch];
            given[GIVEN_HEAVY] = sack;
            given[GIVEN_WEIGHT] = weight;
            given[GIVEN_WIND] = wind;
            given[GIVEN_LEGS] = legs;
            given[GIVEN_DAMP] = damp[stretch];
            given[GIVEN_CURVE] = curves[stretch];
        }

        /** Time, 20 more than what is paid in wind, and ache of a STEP: seven, six and five bits. */
        int taken(int stretch, int pace, int wind, int legs) {
            Laws laws = told.laws;
            int ofWind = laws.uses[GIVEN_WIND] ? wind : 0;
            int ofLegs = laws.uses[GIVEN_LEGS] ? legs : 0;
            long key = ((((long) age * MOST_STRETCHES + stretch) * (MOST_PACE + 1) + pace) * (MOST_WIND + 1) + ofWind)
                * (MOST_LEGS + 1) + ofLegs;
            int slot = (int) (key & (SLOTS - 1));
            if (keys[slot] != key) {
                give(stretch, pace, wind, legs);
                int time = laws.within(LAW_TIME, 1, 99, 10 - pace);
                int cost = laws.within(LAW_COST, -20, 20, pace + slopes[stretch] - 4);
                int ache = laws.within(LAW_ACHE, 0, 20, 0);
                keys[slot] = key;
                takes[slot] = time | (cost + 20) << 7 | ache << 13;
            }
            return takes[slot];
        }
    }

    /** One MAN on his way: a RUN, the RACE, or a part of one. */
    private static final class Walk {
        boolean on = false;
        int man = 0;
        private int plan = 0;
        int hold = 0;
        private int holdCost = 0;
        /** 0: the PLAN's. */
        int ownPace = 0;
        private int top = 0;
        int wind = 0;
        int legs = 0;
        int tenths = 0;
        int steps = 0;
        int slips = 0;
        private int stretch = 0;
        private int within = 0;
        /** The last number drawn; a new way goes on from it. */
        long last = 0;

        void begin(Told told, int newMan, int newPlan) {
            on = true;
            man = newMan;
            plan = newPlan;
            ownPace = 0;
            steps = 0;
            slips = 0;
            stretch = 0;
            within = 0;
            int full = told.at(MAN, man, WIND);
            stand(full, full, told.at(MAN, man, LEGS), 0);
            grip(told, told.at(PLAN, plan, HELD_BY));
        }

        void stand(int newTop, int newWind, int newLegs, int newCost) {
            top = newTop;
            wind = newWind;
            legs = newLegs;
            holdCost = newCost;
            tenths = 0;
        }

        void grip(Told told, int newHold) {
            hold = newHold;
            holdCost = told.at(HOLD, hold, COST);
        }

        void take(Walk other) {
            on = other.on;
            man = other.man;
            plan = other.plan;
            hold = other.hold;
            holdCost = other.holdCost;
            ownPace = other.ownPace;
            top = other.top;
            wind = other.wind;
            legs = other.legs;
            tenths = other.tenths;
            steps = other.steps;
            slips = other.slips;
            stretch = other.stretch;
            within = other.within;
            last = other.last;
        }

        boolean isOut() {
            return legs <= 0;
        }

        boolean isGoing(Told told) {
            return on && legs > 0 && stretch < told.size(STRETCH);
        }

        int nextPace(Told told) {
            if (wind == 0) {
                return 1;
            }
            return ownPace > 0 ? ownPace : told.at(PLAN, plan, FIRST_PACE + stretch);
        }

        void step(Ground ground, boolean slipping) {
            if (stretch < 0 || stretch >= MOST_STRETCHES) {
                return;
            }
            tread(ground, stretch, nextPace(ground.told), 1);
            if (slipping) {
                slip(ground.told, ground.damp[stretch]);
            }
            steps++;
            within++;
            if (within >= ground.steps[stretch]) {
                within = 0;
                stretch++;
            }
        }

        private void slip(Told told, int damp) {
            last = (last * 1103515245L + 12345L) & 0x7fffffffL;
            long number = (last >> 16) % 100;
            if (number < told.at(HOLD, hold, SLIPS) + 10 * damp) {
                slips++;
                tenths += told.at(HOLD, hold, SHIFT);
            }
        }

        /** So many STEPS in a STRETCH at a pace, as far as he isn't OUT; nothing slips. */
        void tread(Ground ground, int where, int pace, int n) {
            if (where < 0 || where >= MOST_STRETCHES) {
                return;
            }
            for (int i = 0; i < n && legs > 0; i++) {
                int taken = ground.taken(where, wind == 0 ? 1 : pace, wind, legs);
                tenths += taken & 127;
                int left = wind - ((taken >> 7 & 63) - 20) - holdCost;
                wind = left < 0 ? 0 : left > top ? top : left;
                int ache = taken >> 13 & 31;
                legs = ache < legs ? legs - ache : 0;
            }
        }
    }

    /** BEST and QUICK: for each wind and legs that he can have behind a STRETCH, the best way to them. */
    private static final class Search {
        private static final int LEGS_WIDE = MOST_LEGS + 1;
        private static final int STATES = (MOST_WIND + 1) * LEGS_WIDE;
        private static final int PATH_BITS = 4 * MOST_STRETCHES;
        private static final long PATH_MASK = (1L << PATH_BITS) - 1;

        private final Ground ground;
        private final Walk walk = new Walk();

        /** By wind and legs: tenths above the paces (four bits each, the last one lowest); 0: not reached. */
        private long[] ways = new long[STATES];
        private long[] nextWays = new long[STATES];
        private int[] reached = new int[STATES];
        private int[] nextReached = new int[STATES];
        private int size = 0;
        private int nextSize = 0;

        /** What was sought for last, so that the same isn't sought again. */
        private int age = 0;
        private int man = NONE;
        private int hold = NONE;
        private int firstPace = 0;
        private long bestWay = NONE;

        private int top = 0;
        private int holdCost = 0;

        Search(Ground ground) {
            this.ground = ground;
        }

        /** Tenths, or LACKS; a first pace other than 0 is told for the first STRETCH. */
        int seek(int newMan, int newHold, int newFirst) {
            if (age != ground.age || man != newMan || hold != newHold || firstPace != newFirst) {
                age = ground.age;
                man = newMan;
                hold = newHold;
                firstPace = newFirst;
                begin();
                for (int stretch = 0; stretch < ground.told.size(STRETCH); stretch++) {
                    for (int i = 0; i < size; i++) {
                        spread(reached[i], stretch);
                    }
                    turnOver();
                }
                end();
            }
            return bestWay == NONE ? LACKS : (int) (bestWay >> PATH_BITS);
        }

        int paceIn(int stretch) {
            int behind = ground.told.size(STRETCH) - 1 - stretch;
            if (behind < 0 || behind >= MOST_STRETCHES || bestWay == NONE) {
                return LACKS;
            }
            return (int) (bestWay >> 4 * behind) & 15;
        }

        private void begin() {
            top = ground.told.at(MAN, man, WIND);
            holdCost = ground.told.at(HOLD, hold, COST);
            reached[0] = top * LEGS_WIDE + ground.told.at(MAN, man, LEGS);
            size = 1;
        }

        private void end() {
            bestWay = NONE;
            for (int i = 0; i < size; i++) {
                long way = ways[reached[i]];
                bestWay = bestWay == NONE || way < bestWay ? way : bestWay;
                ways[reached[i]] = 0;
            }
        }

        private void spread(int state, int stretch) {
            if (state < 0 || state >= STATES) {
                return;
            }
            boolean told = stretch == 0 && firstPace > 0;
            int from = told ? firstPace : 1;
            int to = told ? firstPace : MOST_PACE;
            for (int pace = from; pace <= to; pace++) {
                walk.stand(top, state / LEGS_WIDE, state % LEGS_WIDE, holdCost);
                walk.tread(ground, stretch, pace, ground.stepsOf(stretch));
                if (!walk.isOut()) {
                    reach(walk.wind * LEGS_WIDE + walk.legs, ways[state], pace);
                }
            }
        }

        /** Of ways to one wind and legs the least number is the quickest, and of those the first. */
        private void reach(int state, long way, int pace) {
            if (state < 0 || state >= STATES) {
                return;
            }
            long tenths = (way >> PATH_BITS) + walk.tenths;
            long path = ((way << 4) & PATH_MASK) | pace;
            long longer = tenths << PATH_BITS | path;
            if (nextWays[state] == 0 && nextSize < STATES) {
                nextReached[nextSize] = state;
                nextSize++;
                nextWays[state] = longer;
            } else if (longer < nextWays[state]) {
                nextWays[state] = longer;
            }
        }

        private void turnOver() {
            for (int i = 0; i < size; i++) {
                ways[reached[i]] = 0;
            }
            long[] oldWays = ways;
            ways = nextWays;
            nextWays = oldWays;
            int[] oldReached = reached;
            reached = nextReached;
            nextReached = oldReached;
            size = nextSize;
            nextSize = 0;
        }
    }

    /** TRAINED: all loads week by week, in their order, as far as HARM allows. */
    private static final class Training {
        private static final int MOST_LOAD = 3;
        private static final int MOST_FORM = 60;

        private int weight = NONE;
        private int weeks = 0;
        private int mostHarm = 0;

        boolean found = false;
        int bestForm = 0;
        int bestHarm = 0;
        int bestLoads = 0;

        void forget() {
            weight = NONE;
        }

        void seek(Laws laws, int newWeight, int newWeeks, int newMost) {
            if (weight == newWeight && weeks == newWeeks && mostHarm == newMost) {
                return;
            }
            weight = newWeight;
            weeks = newWeeks;
            mostHarm = newMost;
            found = false;
            train(laws, 0, 0, 0, 0, 0);
        }

        /** HARM never grows less, so what is too much already need not go on. */
        private void train(Laws laws, int week, int form, int tired, int harm, int loads) {
            if (week >= weeks) {
                weigh(form - tired, harm, loads);
                return;
            }
            for (int load = 0; load <= MOST_LOAD; load++) {
                give(laws.given, week, load, form, tired);
                int moreHarm = harm + laws.within(LAW_HARM, 0, 99, 0);
                if (moreHarm <= mostHarm) {
                    int newForm = bounded(form + laws.within(LAW_GAIN, -20, 20, 0));
                    int newTired = bounded(tired + laws.within(LAW_TIRE, -20, 20, 0));
                    train(laws, week + 1, newForm, newTired, moreHarm, loads | load << 2 * week);
                }
            }
        }

        private void give(long[] given, int week, int load, int form, int tired) {
            given[GIVEN_PACE] = week;
            given[GIVEN_SLOPE] = 0;
            given[GIVEN_HEAVY] = load;
            given[GIVEN_WEIGHT] = weight;
            given[GIVEN_WIND] = form;
            given[GIVEN_LEGS] = tired;
            given[GIVEN_DAMP] = 0;
            given[GIVEN_CURVE] = 0;
        }

        private static int bounded(int value) {
            return Math.max(0, Math.min(MOST_FORM, value));
        }

        private void weigh(int form, int harm, int loads) {
            if (!found || form > bestForm || (form == bestForm && harm < bestHarm)) {
                found = true;
                bestForm = form;
                bestHarm = harm;
                bestLoads = loads;
            }
        }
    }

    /** SPLITS and STRIKES as they were told, and FITS by those that are KNOWN. */
    private static final class Splits {
        static final int STRIKE = -1;
        private static final int MOST = 24;
        private static final int ALL = -1;
        private static final int CELLS = MOST_PLANS * MOST_STRETCHES;

        /** STRIKE, or whose SPLIT it is. */
        private final int[] men = new int[MOST];
        private final int[] cells = new int[MOST];
        /** Of a STRIKE what it strikes. */
        private final int[] tenths = new int[MOST];
        private final boolean[] struck = new boolean[MOST];
        int size = 0;
        private int knownBy = ALL;

        /** By PLAN and STRETCH: tenths that must be, NONE without. */
        private final int[] due = new int[CELLS];
        private final int[] lastDue = new int[MOST_PLANS];
        private boolean atOdds = false;

        private int fitMan = NONE;
        private int fitAge = 0;
        private int found = 0;
        private final int[] ends = new int[4];

        void clear() {
            size = 0;
            knownBy = ALL;
            fitMan = NONE;
        }

        int add(int man, int plan, int stretch, int value) {
            if (size >= MOST) {
                return NONE;
            }
            men[size] = man;
            cells[size] = plan * MOST_STRETCHES + stretch;
            tenths[size] = value;
            size++;
            fitMan = NONE;
            return size - 1;
        }

        void know(int n) {
            knownBy = n;
            fitMan = NONE;
        }

        int knownSize() {
            return knownBy == ALL ? size : Math.min(knownBy, size);
        }

        void fit(Ground ground, Walk walk, int man) {
            if (fitMan == man && fitAge == ground.age) {
                return;
            }
            fitMan = man;
            fitAge = ground.age;
            found = 0;
            strikeOut();
            gather(man);
            for (int wind = 1; wind <= MOST_WIND && !atOdds; wind++) {
                for (int legs = 1; legs <= MOST_LEGS; legs++) {
                    if (isFit(ground, walk, wind, legs)) {
                        widen(wind, legs);
                    }
                }
            }
        }

        /** A STRIKE strikes only what is ahead of it, so from the last one on each is settled in time. */
        private void strikeOut() {
            for (int i = 0; i < MOST; i++) {
                struck[i] = false;
            }
            for (int i = knownSize() - 1; i >= 0; i--) {
                boolean strikes = men[i] == STRIKE && !struck[i];
                if (strikes && tenths[i] >= 0 && tenths[i] < MOST) {
                    struck[tenths[i]] = true;
                }
            }
        }

        private void gather(int man) {
            atOdds = false;
            for (int i = 0; i < CELLS; i++) {
                due[i] = NONE;
            }
            for (int i = 0; i < MOST_PLANS; i++) {
                lastDue[i] = NONE;
            }
            for (int i = 0; i < knownSize(); i++) {
                if (men[i] == man && !struck[i]) {
                    expect(cells[i], tenths[i]);
                }
            }
        }

        private void expect(int cell, int value) {
            if (cell < 0 || cell >= CELLS) {
                return;
            }
            if (due[cell] != NONE && due[cell] != value) {
                atOdds = true;
            }
            due[cell] = value;
            int plan = cell / MOST_STRETCHES;
            lastDue[plan] = Math.max(lastDue[plan], cell % MOST_STRETCHES);
        }

        private boolean isFit(Ground ground, Walk walk, int wind, int legs) {
            Told told = ground.told;
            for (int plan = 0; plan < MOST_PLANS; plan++) {
                if (lastDue[plan] == NONE) {
                    continue;
                }
                walk.stand(wind, wind, legs, told.at(HOLD, told.at(PLAN, plan, HELD_BY), COST));
                for (int i = 0; i <= lastDue[plan]; i++) {
                    walk.tread(ground, i, told.at(PLAN, plan, FIRST_PACE + i), ground.stepsOf(i));
                    int must = due[plan * MOST_STRETCHES + i];
                    if (walk.isOut() || (must != NONE && must != walk.tenths)) {
                        return false;
                    }
                }
            }
            return true;
        }

        private void widen(int wind, int legs) {
            ends[0] = found == 0 ? wind : Math.min(ends[0], wind);
            ends[1] = found == 0 ? wind : Math.max(ends[1], wind);
            ends[2] = found == 0 ? legs : Math.min(ends[2], legs);
            ends[3] = found == 0 ? legs : Math.max(ends[3], legs);
            found++;
        }

        int tells(int what) {
            if (what == 0) {
                return found;
            }
            return found == 0 || what < 1 || what > 4 ? LACKS : ends[what - 1];
        }
    }

    /** MEN at a CORNER: what each loses for every other one inside, and what he loses outside. */
    private static final class Turn {
        int men = 0;
        final int[] jam = new int[MOST_MEN];
        final int[] wide = new int[MOST_MEN];

        private boolean isOf(int inside) {
            return (inside & ~men) == 0;
        }

        private int loss(int man, int inside) {
            int others = Integer.bitCount(inside & ~(1 << man));
            return ((inside >> man) & 1) != 0 ? jam[man] * others : wide[man];
        }

        boolean isRest(int inside) {
            if (!isOf(inside)) {
                return false;
            }
            for (int i = 0; i < MOST_MEN; i++) {
                boolean goes = ((men >> i) & 1) != 0;
                if (goes && loss(i, inside ^ 1 << i) < loss(i, inside)) {
                    return false;
                }
            }
            return true;
        }

        int sum(int inside) {
            int sum = 0;
            for (int i = 0; i < MOST_MEN; i++) {
                sum += ((men >> i) & 1) != 0 ? loss(i, inside) : 0;
            }
            return sum;
        }

        int least() {
            int best = 0;
            int leastSum = sum(0);
            for (int inside = 1; inside < 1 << MOST_MEN; inside++) {
                if (isOf(inside) && sum(inside) < leastSum) {
                    best = inside;
                    leastSum = sum(inside);
                }
            }
            return best;
        }
    }
}
