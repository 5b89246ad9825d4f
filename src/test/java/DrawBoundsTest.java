/** Each sentence about WEEKS, WINS and RACES drawn (==== 3., promises 27, 32 and 33) that names a boundary case. */
public final class DrawBoundsTest {
    public static void main(String[] args) {
        week();
        likewise();
        within();
        atMost();
        greatest();
        namesOfWeeks();
        weeksOfText();
        trained();
        winsOrdinary();
        winsDrawn();
        wins();
        beats();
        beatsDrawn();
        asNow();
        Check.finish("DrawBoundsTest");
    }

    private static SackRace man(String laws) {
        return Check.told("man m 5 5 9;" + laws);
    }

    private static void week() {
        Check.sentence("WEEKS: FORM and TIRED are 0 at first; in each a load 0 .. 3 (heavy)");
        SackRace x = man("law gain wind;law tire legs;");
        Check.due("nothing comes of 0", x.trained(0, 6, 999, 0), 0);
        SackRace y = man("law gain heavy;");
        for (int n = 1; n <= 6; n++) {
            Check.due("3 each of " + n, y.trained(0, n, 999, 0), 3 * n);
            Check.due("3 each of " + n, y.trained(0, n, 999, 2), (1 << 2 * n) - 1);
            Check.due("no harm", y.trained(0, n, 0, 1), 0);
        }
        Check.sentence("trained: 2: loads (two bits each, the first WEEK lowest)");
        SackRace z = man("law gain (heavy = pace + 1) * 5;");
        Check.due("1, 2, 3", z.trained(0, 3, 999, 2), 1 + 2 * 4 + 3 * 16);
        Check.due("then none fits", z.trained(0, 6, 999, 2), 1 + 2 * 4 + 3 * 16);
        Check.due("15", z.trained(0, 6, 999, 0), 15);
    }

    private static void likewise() {
        Check.sentence("WEEKS: (-20 .. 20 each; 0 without, with an ERROR)");
        Check.due("gain 19", man("law gain 19;").trained(0, 1, 0, 0), 19);
        Check.due("gain 20", man("law gain 20;").trained(0, 1, 0, 0), 20);
        Check.due("gain 21", man("law gain 21;").trained(0, 1, 0, 0), 20);
        Check.due("gain 9999", man("law gain 9999;").trained(0, 1, 0, 0), 20);
        Check.due("gain -19", man("law gain 60 * (pace < 3) - 19 * (pace = 3);").trained(0, 4, 0, 0), 41);
        Check.due("gain -20", man("law gain 60 * (pace < 3) - 20 * (pace = 3);").trained(0, 4, 0, 0), 40);
        Check.due("gain -21", man("law gain 60 * (pace < 3) - 21 * (pace = 3);").trained(0, 4, 0, 0), 40);
        Check.due("gain -9999", man("law gain 60 * (pace < 3) - 9999 * (pace = 3);").trained(0, 4, 0, 0), 40);
        Check.due("tire 19", man("law tire 19;").trained(0, 1, 0, 0), -19);
        Check.due("tire 20", man("law tire 20;").trained(0, 1, 0, 0), -20);
        Check.due("tire 21", man("law tire 21;").trained(0, 1, 0, 0), -20);
        Check.due("tire -19", man("law tire 60 * (pace < 3) - 19 * (pace = 3);").trained(0, 4, 0, 0), -41);
        Check.due("tire -20", man("law tire 60 * (pace < 3) - 20 * (pace = 3);").trained(0, 4, 0, 0), -40);
        Check.due("tire -21", man("law tire 60 * (pace < 3) - 21 * (pace = 3);").trained(0, 4, 0, 0), -40);
        Check.due("without", man("").trained(0, 6, 0, 0), 0);
        Check.due("gain, an ERROR in the second WEEK", man("law gain (pace = 0) * 7 / (pace = 0);").trained(0, 2, 0, 0), 7);
        Check.due("tire, an ERROR in the second WEEK", man("law tire (pace = 0) * 7 / (pace = 0);").trained(0, 2, 0, 0), -7);
        Check.due("harm, an ERROR in the second WEEK", man("law harm (pace = 0) * 7 / (pace = 0);").trained(0, 2, 9, 1), 7);
        Check.due("harm, an ERROR in all", man("law harm 1 / 0;").trained(0, 6, 0, 1), 0);
        Check.due("gain, an ERROR by its value", man("law gain 9999 * 9999 * 9999 * 9999;").trained(0, 1, 0, 0), 0);
        Check.sentence("WEEKS: HARM by E of harm (0 .. 99; likewise)");
        Check.due("harm 98", man("law harm 98;").trained(0, 1, 999, 1), 98);
        Check.due("harm 99", man("law harm 99;").trained(0, 1, 999, 1), 99);
        Check.due("harm 100", man("law harm 100;").trained(0, 1, 999, 1), 99);
        Check.due("harm 9999", man("law harm 9999;").trained(0, 6, 999, 1), 594);
        Check.due("harm -1", man("law harm (pace = 0) * 5 - (pace = 1);").trained(0, 2, 999, 1), 5);
        Check.due("without", man("law gain 3;").trained(0, 2, 0, 1), 0);
    }

    private static void within() {
        Check.sentence("WEEKS: FORM and TIRED: both 0 .. 60");
        Check.due("FORM 59", man("law gain 20 - (pace = 2);").trained(0, 3, 0, 0), 59);
        Check.due("FORM 60", man("law gain 20;").trained(0, 3, 0, 0), 60);
        Check.due("FORM 61 is 60", man("law gain 20 - 19 * (pace = 3);").trained(0, 4, 0, 0), 60);
        Check.due("FORM 61 less 1 is 59", man("law gain 20 * (pace < 3) + (pace = 3) - (pace = 4);").trained(0, 5, 0, 0), 59);
        Check.due("FORM -1 is 0", man("law gain 0 - (pace = 0) + (pace = 1) * 5;").trained(0, 2, 0, 0), 5);
        Check.due("TIRED 60", man("law tire 20;").trained(0, 3, 0, 0), -60);
        Check.due("TIRED 61 less 1 is 59", man("law tire 20 * (pace < 3) + (pace = 3) - (pace = 4);").trained(0, 5, 0, 0), -59);
        Check.due("TIRED -1 is 0", man("law tire 0 - (pace = 0) + (pace = 1) * 5;").trained(0, 2, 0, 0), -5);
        Check.due("both", man("law gain 20;law tire 20;").trained(0, 6, 0, 0), 0);
    }

    private static void atMost() {
        Check.sentence("TRAINED: loads with HARM at most as told");
        SackRace x = man("law gain heavy;law harm heavy * 7;");
        int[] due = {0, 0, 0, 0, 0, 0, 0, 1, 1, 1, 1, 1, 1, 1, 2};
        for (int harm = 0; harm <= 14; harm++) {
            Check.due("form at HARM " + harm, x.trained(0, 2, harm, 0), due[harm]);
            Check.due("HARM at " + harm, x.trained(0, 2, harm, 1), due[harm] * 7);
        }
        Check.due("all", x.trained(0, 2, 42, 0), 6);
        Check.due("one less", x.trained(0, 2, 41, 0), 5);
        Check.sentence("trained: what 0 (-99: there is none); NONE of 1, 2: there is none");
        SackRace y = man("law harm 3 + heavy;law tire 20;");
        for (int n = 1; n <= 6; n++) {
            Check.due(n + " WEEKS", y.trained(0, n, 3 * n - 1, 0), -99);
            Check.due(n + " WEEKS", y.trained(0, n, 3 * n - 1, 1), -1);
            Check.due(n + " WEEKS", y.trained(0, n, 3 * n - 1, 2), -1);
            Check.due(n + " WEEKS", y.trained(0, n, 3 * n, 0), -Math.min(60, 20 * n));
            Check.due(n + " WEEKS", y.trained(0, n, 3 * n, 1), 3 * n);
            Check.due(n + " WEEKS", y.trained(0, n, 3 * n, 2), 0);
        }
    }

    private static void greatest() {
        Check.sentence("TRAINED: the greatest FORM less TIRED");
        SackRace x = man("law gain heavy * 4;law tire heavy * heavy;");
        Check.due("of one WEEK", x.trained(0, 1, 0, 0), 4);
        Check.due("its load", x.trained(0, 1, 0, 2), 2);
        Check.due("a greater one of more HARM", man("law gain heavy;law harm heavy;").trained(0, 1, 99, 2), 3);
        Check.due("a less one of less HARM comes later", man("law gain 3 - heavy;law harm 3 - heavy;").trained(0, 1, 99, 2), 0);
        Check.due("below 0", man("law tire 5 - (heavy = 2);").trained(0, 1, 99, 2), 2);
        Check.sentence("TRAINED: of several the least HARM");
        Check.due("3 harms least", man("law gain 5;law harm 3 - heavy;").trained(0, 1, 99, 2), 3);
        Check.due("its HARM", man("law gain 5;law harm 3 - heavy;").trained(0, 1, 99, 1), 0);
        Check.due("2 harms least", man("law harm (heavy <> 2) * 5;").trained(0, 2, 99, 2), 2 + 8);
        Check.sentence("TRAINED: then the first by WEEKS");
        Check.due("0 at first", man("law gain (heavy = 3) * (wind = 0) * 5;").trained(0, 2, 99, 2), 12);
        Check.due("all alike", man("").trained(0, 6, 99, 2), 0);
        Check.due("the first WEEK counts most", man("law gain (heavy > 0) * (wind < 5) * 5;").trained(0, 2, 99, 2), 4);
        SackRace y = man("law gain (pace = 0) * heavy + (pace = 1) * (legs = 0) * heavy;law tire 0;law harm heavy;");
        Check.due("3 in sum of two", y.trained(0, 2, 3, 2), 12);
        Check.due("3 in sum of two", y.trained(0, 2, 3, 0), 3);
    }

    private static void namesOfWeeks() {
        Check.sentence("NAMES there: pace: the WEEK (0 up), heavy: its load, wind: FORM, legs: TIRED as they are ahead");
        SackRace x = man("law gain (pace = 0 and wind = 0 and legs = 0) * 7 + (pace = 1 and wind = 7 and legs = 2) * 5"
            + " + (pace = 2 and wind = 12 and legs = 5) * 6;law tire (wind = 0) * 2 + (wind = 7) * 3;");
        Check.due("one WEEK", x.trained(0, 1, 0, 0), 5);
        Check.due("two WEEKS", x.trained(0, 2, 0, 0), 7);
        Check.due("three WEEKS", x.trained(0, 3, 0, 0), 13);
        Check.sentence("NAMES there: weight: of the MAN; all others 0");
        SackRace y = Check.told("lane a 1 9 bend wet;man m 5 5 17;man n 6 6 4;hold h 0 0 0;plan p h 9;load 30;"
            + "law gain weight;law tire slope + damp + curve;law harm slope + damp + curve;law jam slope + damp + curve;");
        y.rain(true);
        for (int i = 0; i < 2; i++) {
            Check.due("of the first", y.trained(0, 1, 99, 0), 17);
            Check.due("of the second", y.trained(1, 1, 99, 0), 4);
            Check.due("HARM", y.trained(1, 1, 99, 1), 0);
            y.run(0, 0, 0);
            y.corner(3, 0, 0);
            y.law(0, 0, 0, 1);
        }
        y.run(0, 0, 0);
        Check.due("behind a RUN", y.trained(0, 1, 98, 0), 17);
        y.corner(3, 0, 0);
        Check.due("behind a CORNER", y.trained(0, 1, 97, 1), 0);
        y.fits(0, 0);
        Check.due("behind a FIT", y.trained(0, 1, 96, 0), 17);
    }

    private static void weeksOfText() {
        Check.sentence("TRAINED: by the laws of the TEXT now");
        SackRace x = man("law gain heavy;");
        Check.due("one TEXT", x.trained(0, 2, 9, 0), 6);
        Check.tell(x, "man m 5 5 9;law gain heavy * 2;");
        Check.due("another TEXT", x.trained(0, 2, 9, 0), 12);
        Check.tell(x, "man m 5 5 9;law gain heavy * 3;law harm 10;");
        Check.due("there is none", x.trained(0, 2, 9, 0), -99);
        Check.tell(x, "man m 5 5 9;law gain heavy * 3;!");
        Check.due("a FAULT", x.trained(0, 2, 9, 0), -99);
        Check.tell(x, "man m 5 5 9;");
        Check.due("no laws", x.trained(0, 2, 9, 0), 0);
        Check.tell(x, "");
        Check.due("no MEN", x.trained(0, 2, 9, 0), -999);
    }

    private static void trained() {
        Check.sentence("trained: (n 1 .. 6 WEEKS, HARM at most 0 .. 999), -999: no such ones");
        SackRace x = man("law gain heavy;law harm 5;");
        for (int none : new int[] {0, 7, 8, -1, Integer.MAX_VALUE, Integer.MIN_VALUE}) {
            Check.due("n " + none, x.trained(0, none, 99, 0), -999);
        }
        for (int none : new int[] {-1, 1000, Integer.MAX_VALUE, Integer.MIN_VALUE}) {
            Check.due("harm " + none, x.trained(0, 1, none, 0), -999);
        }
        for (int none : new int[] {1, 5, -1, Integer.MAX_VALUE, Integer.MIN_VALUE}) {
            Check.due("man " + none, x.trained(none, 1, 99, 0), -999);
        }
        for (int none : new int[] {3, 4, -1, Integer.MAX_VALUE, Integer.MIN_VALUE}) {
            Check.due("what " + none, x.trained(0, 1, 99, none), -999);
            Check.due("there is none, what " + none, x.trained(0, 1, 0, none), -999);
        }
        Check.due("n 1", x.trained(0, 1, 999, 0), 3);
        Check.due("n 6", x.trained(0, 6, 999, 0), 18);
        Check.due("harm 0", x.trained(0, 1, 0, 0), -99);
        Check.due("harm 999", x.trained(0, 6, 999, 1), 30);
    }

    private static final String LANE = "lane a 2 0;lane b 3 2 wet;man m 9 9 9;man n 20 9 9;man o 20 1 9;man p 9 9 9;"
        + "hold h 0 30 4;plan p h 4;plan q h 8 5;law ache legs = 1;";

    private static void winsOrdinary() {
        Check.sentence("WINS: who comes up in the least time (the first of several)");
        String even = "lane a 3 0;man m 9 9 9;man n 9 9 9;man o 9 9 8;man p 9 9 7;man q 9 9 6;hold h 0 0 4;plan p h 4;";
        SackRace x = Check.told(even);
        for (int men = 1; men < 32; men++) {
            int first = Integer.numberOfTrailingZeros(men);
            for (int man = 0; man < 5; man++) {
                int due = (men >> man & 1) == 0 ? -1 : man == first ? 10 : 0;
                Check.due("wins of " + man + " among " + men, x.wins(5, men, 0, man), due);
            }
        }
        SackRace y = Check.told(even + "law time weight;");
        Check.due("the lightest", y.wins(5, 31, 0, 4), 10);
        Check.due("the lightest of three", y.wins(5, 13, 0, 3), 10);
        Check.due("not the first", y.wins(5, 31, 0, 0), 0);
        Check.due("the first of two alike", y.wins(5, 3, 0, 0), 10);
        Check.sentence("WINS: (nobody, if all are OUT)");
        SackRace z = Check.told(even + "law ache (weight = 9) * 20 + 3 * (weight = 8);");
        Check.due("all are OUT", z.wins(5, 3, 0, 0) + z.wins(5, 3, 0, 1), 0);
        Check.due("one isn't", z.wins(5, 11, 0, 3), 10);
        Check.due("OUT at the last STEP", z.wins(5, 4, 0, 2), 0);
        Check.due("one OUT is ahead of it", z.wins(5, 12, 0, 3), 10);
        Check.sentence("WINS of no STRETCHES: all are up at once");
        SackRace w = Check.told("man m 9 9 9;man n 9 9 9;hold h 0 0 4;plan p h 4;");
        Check.due("the first", w.wins(0, 3, 0, 0), 10);
        Check.due("the second", w.wins(0, 3, 0, 1), 0);
        Check.due("alone", w.wins(0, 2, 0, 1), 10);
    }

    private static long last;

    private static int slipped(int steps, int dry) {
        int slips = 0;
        for (int i = 0; i < steps; i++) {
            last = (last * 1103515245L + 12345L) % (1L << 31);
            slips += last / 65536 % 100 < (i < dry ? 30 : 40) ? 1 : 0;
        }
        return slips;
    }

    private static void winsDrawn() {
        Check.sentence("WINS: in one draw after another races of all of them by numbers (from a seed on, going on)");
        for (int seed : new int[] {0, 1, 2, 99999, 100000, 2147483646, 2147483647}) {
            for (int plan = 0; plan < 2; plan++) {
                SackRace x = Check.told(LANE);
                int[] tenths = new int[4];
                int[] steps = new int[4];
                for (int man = 0; man < 4; man++) {
                    tenths[man] = x.run(man, plan, 0);
                    steps[man] = x.run(man, plan, 3);
                }
                for (int men = 1; men < 16; men++) {
                    int[] wins = winsOf(seed, men, tenths, steps);
                    for (int man = 0; man < 4; man++) {
                        if ((men >> man & 1) == 1) {
                            Check.due("wins(" + seed + ", " + men + ", " + plan + ", " + man + ")", x.wins(seed, men, plan, man), wins[man]);
                        }
                    }
                }
            }
        }
    }

    /** Ten draws by RUNS that are told, and by slips of four tenths each. */
    private static int[] winsOf(int seed, int men, int[] tenths, int[] steps) {
        last = seed;
        int[] wins = new int[4];
        for (int draw = 0; draw < 10; draw++) {
            int winner = -1;
            int least = 0;
            for (int man = 0; man < 4; man++) {
                if ((men >> man & 1) == 1) {
                    int slips = slipped(steps[man], 2);
                    if (tenths[man] >= 0 && (winner < 0 || tenths[man] + 4 * slips < least)) {
                        winner = man;
                        least = tenths[man] + 4 * slips;
                    }
                }
            }
            if (winner >= 0) {
                wins[winner]++;
            }
        }
        return wins;
    }

    private static void wins() {
        Check.sentence("wins: NONE: no such ones (seed 0 .. 2147483647), among MEN (bits; he is one)");
        SackRace x = Check.told(LANE);
        for (int none : new int[] {-1, Integer.MIN_VALUE}) {
            Check.due("seed " + none, x.wins(none, 1, 0, 0), -1);
        }
        for (int none : new int[] {0, 16, 17, 32, -1, Integer.MAX_VALUE, Integer.MIN_VALUE}) {
            Check.due("men " + none, x.wins(0, none, 0, 0), -1);
        }
        for (int none : new int[] {4, 5, 31, 32, -1, Integer.MAX_VALUE, Integer.MIN_VALUE}) {
            Check.due("man " + none, x.wins(0, 15, 0, none), -1);
        }
        for (int none : new int[] {2, 5, -1, Integer.MAX_VALUE, Integer.MIN_VALUE}) {
            Check.due("plan " + none, x.wins(0, 1, none, 0), -1);
        }
        Check.due("he isn't one", x.wins(0, 14, 0, 0), -1);
        Check.due("he isn't one", x.wins(0, 1, 0, 1), -1);
        Check.due("all four", x.wins(0, 15, 0, 2), 0);
        SackRace y = Check.told("man a 1 1 1;man b 1 1 1;man c 1 1 1;man d 1 1 1;man e 1 1 1;hold h 0 0 0;plan p h 1;");
        Check.due("five", y.wins(0, 31, 0, 0), 10);
        Check.due("the fifth", y.wins(0, 16, 0, 4), 10);
        Check.due("a sixth", y.wins(0, 63, 0, 0), -1);
    }

    private static void beats() {
        Check.sentence("beats: is up in at most so many tenths (0 .. 99999)");
        SackRace x = Check.told("lane a 3 0;man m 9 9 9;man n 9 3 9;hold h 0 0 4;plan p h 4;law ache (weight = 9) * (legs < 4);");
        Check.due("18", x.beats(1, 0, 0, 18), 10);
        Check.due("17", x.beats(1, 0, 0, 17), 0);
        Check.due("0", x.beats(1, 0, 0, 0), 0);
        Check.due("99999", x.beats(1, 0, 0, 99999), 10);
        Check.due("OUT at the last STEP", x.beats(1, 1, 0, 99999), 0);
        for (int none : new int[] {-1, 100000, Integer.MAX_VALUE, Integer.MIN_VALUE}) {
            Check.due("tenths " + none, x.beats(1, 0, 0, none), -1);
        }
        for (int none : new int[] {-1, Integer.MIN_VALUE}) {
            Check.due("seed " + none, x.beats(none, 0, 0, 18), -1);
        }
        Check.due("seed 0", x.beats(0, 0, 0, 18), 10);
        Check.due("seed 2147483647", x.beats(2147483647, 0, 0, 18), 10);
        for (int none : new int[] {2, 5, -1, Integer.MAX_VALUE, Integer.MIN_VALUE}) {
            Check.due("man " + none, x.beats(1, none, 0, 18), -1);
        }
        for (int none : new int[] {1, 5, -1, Integer.MAX_VALUE, Integer.MIN_VALUE}) {
            Check.due("plan " + none, x.beats(1, 0, none, 18), -1);
        }
        Check.sentence("beats of no STRETCHES: up in 0 tenths");
        Check.due("0", Check.told("man m 9 9 9;hold h 0 0 4;plan p h 4;").beats(0, 0, 0, 0), 10);
    }

    private static void beatsDrawn() {
        Check.sentence("beats: In how many of ten RACES drawn (numbers from a seed on)");
        SackRace x = Check.told(LANE);
        for (int seed : new int[] {0, 1, 2, 99999, 100000, 2147483646, 2147483647}) {
            for (int man = 0; man < 4; man++) {
                int run = x.run(man, 1, 0);
                int steps = x.run(man, 1, 3);
                for (int more = 0; more <= 20; more += 4) {
                    last = seed;
                    int due = 0;
                    for (int i = 0; i < 10; i++) {
                        int slips = slipped(steps, 2);
                        due += run >= 0 && 4 * slips <= more ? 1 : 0;
                    }
                    Check.due("beats(" + seed + ", " + man + ", 1, " + more + " more)", x.beats(seed, man, 1, Math.max(0, run) + more), due);
                }
            }
        }
    }

    private static void asNow() {
        Check.sentence("WINS and RACES drawn: with the SACK and rain as now");
        String lane = "lane a 9 0;man m 9 9 9;man n 9 9 20;hold h 0 30 4;plan p h 4;law time 9 + heavy + damp * weight;";
        SackRace x = Check.told(lane);
        x.sack(0);
        int dry = x.beats(3, 0, 0, 81 + 8);
        last = 3;
        int due = 0;
        for (int i = 0; i < 10; i++) {
            due += slipped(9, 9) <= 2 ? 1 : 0;
        }
        Check.due("dry", dry, due);
        x.rain(true);
        last = 3;
        due = 0;
        for (int i = 0; i < 10; i++) {
            due += slipped(9, 0) <= 2 ? 1 : 0;
        }
        Check.due("in rain", x.beats(3, 0, 0, 162 + 8), due);
        Check.due("in rain by the dry time", x.beats(3, 0, 0, 81 + 8), 0);
        Check.due("in rain the lighter one wins", x.wins(3, 3, 0, 0), 10);
        x.sack(1);
        x.best(1, 0);
        Check.due("with a SACK", x.beats(3, 0, 0, 171 + 8), due);
        Check.due("with a SACK, not yet", x.beats(3, 0, 0, 170), 0);
        Check.sentence("WINS and RACES drawn leave the RACE and its numbers");
        x.race(0, 0);
        x.go(4);
        int tenths = x.now(1);
        x.wins(9, 3, 0, 1);
        x.beats(9, 1, 0, 9);
        Check.due("the RACE", x.now(1), tenths);
        x.go(5);
        int up = x.now(1);
        for (int i = 0; i < 5; i++) {
            x.undo();
        }
        x.beats(9, 1, 0, 9);
        x.wins(9, 3, 0, 1);
        x.go(5);
        Check.due("its numbers", x.now(1), up);
    }
}
