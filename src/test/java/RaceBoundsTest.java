/** Each sentence about a RACE (==== 2. and 4., promises 11 to 18, 41 and 42) that names a boundary case. */
public final class RaceBoundsTest {
    /** Two men and plans, three holds; of each STEP of the race (0, 0) the tenths tell where it was. */
    private static final String LANE = "lane a 3 1;lane b 2 4 bend;lane c 4 0 wet;man m 30 30 9;man n 12 20 20;hold h 0 0 5;"
        + "hold i 2 40 7;hold j 9 99 99;plan p h 4 6 2;plan q i 5 3;law ache slope / 2;";

    public static void main(String[] args) {
        below();
        tenMore();
        shiftOfASlip();
        seeds();
        everyStepANumber();
        thirtyOneBits();
        numbersGoOn();
        outWithANumber();
        race();
        go();
        now();
        paced();
        shift();
        undo();
        undoAll();
        undoTwenty();
        sack();
        rain();
        keep();
        back();
        backToAnother();
        backToHisWind();
        backToNone();
        Check.finish("RaceBoundsTest");
    }

    private static long next(long last) {
        return (last * 1103515245L + 12345L) % (1L << 31);
    }

    /** The least seed whose first number, modulo 100, is this one. */
    private static int seedOf(int number) {
        for (int seed = 0; seed < 100000; seed++) {
            if (next(seed) / 65536 % 100 == number) {
                return seed;
            }
        }
        return -1;
    }

    /** How many slips there are at one STEP whose number is told. */
    private static int slips(int ofHundred, int number, boolean wet, boolean rain) {
        SackRace x = Check.told("lane a 1 0" + (wet ? " wet" : "") + ";man m 9 9 9;hold h 0 " + ofHundred
            + " 7;plan p h 4;seed " + seedOf(number) + ";");
        x.rain(rain);
        x.race(0, 0);
        x.go(1);
        Check.due("tenths", x.now(1), 6 + 7 * x.now(4));
        return x.now(4);
    }

    private static void below() {
        Check.sentence("a number modulo 100; if that is below what the HOLD slips of a hundred");
        for (int slips : new int[] {0, 1, 2, 10, 50, 98, 99}) {
            for (int number : new int[] {0, slips - 1, slips, slips + 1, 99}) {
                if (number >= 0 && number < 100) {
                    Check.due(number + " below " + slips, slips(slips, number, false, false), number < slips ? 1 : 0);
                }
            }
        }
    }

    private static void tenMore() {
        Check.sentence("(10 more on WET ones, or if it rains)");
        for (int slips : new int[] {0, 1, 40, 89, 90, 99}) {
            for (int number : new int[] {0, slips, slips + 9, slips + 10, slips + 11, slips + 19, 99}) {
                if (number < 100) {
                    int due = number < slips + 10 ? 1 : 0;
                    Check.due(number + " below " + slips + " on WET", slips(slips, number, true, false), due);
                    Check.due(number + " below " + slips + " in rain", slips(slips, number, false, true), due);
                    Check.due(number + " below " + slips + " on WET in rain", slips(slips, number, true, true), due);
                }
            }
        }
        Check.sentence("the next STRETCH isn't WET yet");
        int seed = seedOf(5);
        SackRace x = Check.told("lane a 1 0;lane b 1 0 wet;man m 9 9 9;hold h 0 0 7;plan p h 4;seed " + seed + ";");
        x.race(0, 0);
        x.go(1);
        Check.due("dry", x.now(4), 0);
        x.go(1);
        Check.due("wet", x.now(4), next(next(seed)) / 65536 % 100 < 10 ? 1 : 0);
    }

    private static void shiftOfASlip() {
        Check.sentence("it takes SHIFT more");
        for (int shift : new int[] {0, 1, 99}) {
            SackRace x = Check.told("lane a 1 0;man m 9 9 9;hold h 0 99 " + shift + ";plan p h 4;seed " + seedOf(0) + ";");
            x.race(0, 0);
            x.go(1);
            Check.due("slips", x.now(4), 1);
            Check.due("SHIFT " + shift, x.now(1), 6 + shift);
        }
        SackRace y = Check.told("lane a 1 0;man m 9 9 9;hold h 0 99 9;plan p h 4;law time 99;seed " + seedOf(0) + ";");
        y.race(0, 0);
        y.go(1);
        Check.due("more than 99", y.now(1), 108);
        Check.sentence("what the HOLD slips, that is now his");
        SackRace z = Check.told("lane a 1 0;man m 9 9 9;hold h 0 0 9;hold i 0 99 4;plan p h 4;seed " + seedOf(0) + ";");
        z.race(0, 0);
        z.shift(1);
        z.go(1);
        Check.due("slips", z.now(4), 1);
        Check.due("of both", z.now(1), 6 + 4 + 4);
    }

    private static void sameSlips(SackRace x, long seed) {
        x.race(0, 0);
        long last = seed;
        int slips = 0;
        for (int i = 0; i < 20; i++) {
            last = next(last);
            slips += last / 65536 % 100 < 50 ? 1 : 0;
            x.go(1);
            Check.due("slips from " + seed + " by " + i, x.now(4), slips);
        }
    }

    private static void seeds() {
        Check.sentence("Numbers are the last one (at first the seed); seed: 0 .. 99999 (0)");
        String text = "lane a 20 0;man m 9 9 9;hold h 0 50 3;plan p h 4;";
        sameSlips(Check.told(text), 0);
        for (int seed : new int[] {0, 1, 2, 77, 65536, 99998, 99999}) {
            sameSlips(Check.told(text + "seed " + seed + ";"), seed);
        }
        SackRace x = Check.told(text + "seed 5;");
        sameSlips(x, 5);
        Check.tell(x, text);
        sameSlips(x, 0);
        Check.tell(x, "seed 99;" + text);
        sameSlips(x, 99);
    }

    private static void everyStepANumber() {
        Check.sentence("at each STEP a number, though nothing may slip");
        SackRace x = Check.told("lane a 20 0;man m 60 9 9;hold h 0 0 3;hold i 0 50 3;plan p h 4;seed 12;");
        x.race(0, 0);
        x.go(6);
        Check.due("none yet", x.now(4), 0);
        x.shift(1);
        Check.due("a shift is no slip", x.now(4), 0);
        x.go(14);
        long last = 12;
        int slips = 0;
        for (int i = 0; i < 20; i++) {
            last = next(last);
            slips += i >= 6 && last / 65536 % 100 < 50 ? 1 : 0;
        }
        Check.due("slips", x.now(4), slips);
        Check.sentence("go(0), a refused call and RUNS take no number");
        SackRace y = Check.told("lane a 20 0;man m 60 9 9;hold h 0 50 3;plan p h 4;seed 12;");
        y.race(0, 0);
        last = 12;
        slips = 0;
        for (int i = 0; i < 20; i++) {
            y.go(0);
            y.go(-1);
            y.go(121);
            y.run(0, 0, 0);
            y.wins(5, 1, 0, 0);
            y.beats(7, 0, 0, 99);
            y.best(0, 0);
            last = next(last);
            slips += last / 65536 % 100 < 50 ? 1 : 0;
            y.go(1);
            Check.due("slips by " + i, y.now(4), slips);
        }
        y.go(5);
        Check.due("behind its end too", y.now(4), slips);
    }

    private static void thirtyOneBits() {
        Check.sentence("without what is above 31 bits, by 65536");
        SackRace x = Check.told("lane a 20 0;lane b 20 0;lane c 20 0;lane d 20 0;lane e 20 0;lane f 20 0;man m 9 9 9;"
            + "hold h 0 37 3;plan p h 4;seed 99999;");
        long last = 99999;
        for (int race = 0; race < 3; race++) {
            x.race(0, 0);
            int slips = 0;
            for (int i = 0; i < 120; i++) {
                last = next(last);
                slips += last / 65536 % 100 < 37 ? 1 : 0;
            }
            Check.due("120 STEPS", x.go(120), 120);
            Check.due("slips", x.now(4), slips);
            Check.due("tenths", x.now(1), 720 + 3 * slips);
        }
    }

    private static void numbersGoOn() {
        Check.sentence("Numbers are the last one: they go on from one RACE to the next");
        SackRace x = Check.told("lane a 4 0;man m 9 9 9;hold h 0 50 3;plan p h 4;seed 4;");
        long last = 4;
        for (int race = 0; race < 30; race++) {
            x.race(0, 0);
            int slips = 0;
            int steps = race % 5;
            for (int i = 0; i < steps; i++) {
                last = next(last);
                slips += last / 65536 % 100 < 50 ? 1 : 0;
            }
            x.go(steps);
            Check.due("slips of race " + race, x.now(4), slips);
        }
        Check.sentence("a RACE in place of one ahead that isn't at its end");
        x.race(0, 0);
        x.go(2);
        x.race(0, 0);
        Check.due("STEPS", x.now(0), 0);
        Check.due("slips", x.now(4), 0);
    }

    private static void outWithANumber() {
        Check.sentence("the STEP by which he is OUT has its number, too");
        SackRace x = Check.told("lane a 2 0;man m 9 1 9;hold h 0 99 7;plan p h 4;law ache 1;seed " + seedOf(3) + ";");
        x.race(0, 0);
        Check.due("go", x.go(2), 1);
        Check.due("OUT", x.now(5), 2);
        Check.due("slips", x.now(4), 1);
        Check.due("tenths", x.now(1), 13);
    }

    private static void race() {
        Check.sentence("race: A RACE begins (in place of one ahead): true; false: no such ones");
        SackRace x = Check.told(LANE);
        for (int none : new int[] {2, 5, -1, Integer.MAX_VALUE, Integer.MIN_VALUE}) {
            Check.due("man " + none, x.race(none, 0), false);
            Check.due("plan " + none, x.race(0, none), false);
        }
        Check.due("no RACE", x.now(5), -1);
        x.race(0, 0);
        x.paced(9);
        x.shift(2);
        x.go(4);
        Check.due("none such", x.race(2, 0), false);
        Check.due("none such", x.race(0, 2), false);
        Check.due("the one ahead stays", x.now(0), 4);
        Check.due("and what can be undone", x.count(8), 4);
        Check.due("in its place", x.race(0, 0), true);
        int[] due = {0, 0, 30, 30, 0, 0, 4, 0};
        for (int what = 0; what <= 7; what++) {
            Check.due("now(" + what + ")", x.now(what), due[what]);
        }
        Check.due("nothing to undo", x.undo(), -1);
        Check.due("count(8)", x.count(8), 0);
        Check.due("another one", x.race(1, 1), true);
        Check.due("his wind", x.now(2), 12);
        Check.due("its pace", x.now(6), 5);
        Check.due("its HOLD", x.now(7), 1);
    }

    private static void go() {
        Check.sentence("go: So many STEPS (0 .. 120) of it go on, as far as it goes");
        SackRace x = Check.told(LANE);
        Check.due("no RACE", x.go(0), -1);
        Check.due("no RACE", x.go(1), -1);
        Check.due("no RACE", x.go(120), -1);
        x.race(0, 0);
        for (int none : new int[] {-1, 121, Integer.MAX_VALUE, Integer.MIN_VALUE}) {
            Check.due("go(" + none + ")", x.go(none), -1);
        }
        Check.due("none went", x.now(0), 0);
        Check.due("go(0)", x.go(0), 0);
        Check.due("go(8)", x.go(8), 8);
        Check.due("still going", x.now(5), 0);
        Check.due("go(2)", x.go(2), 1);
        Check.due("up", x.now(5), 1);
        Check.due("go(1)", x.go(1), 0);
        Check.due("go(120)", x.go(120), 0);
        Check.due("go(121)", x.go(121), -1);
        x.race(0, 0);
        Check.due("go(120)", x.go(120), 9);
    }

    private static void now() {
        Check.sentence("now: NONE: no RACE, no such what");
        SackRace x = Check.told(LANE);
        for (int what = -1; what <= 8; what++) {
            Check.due("no RACE, now(" + what + ")", x.now(what), -1);
        }
        x.race(0, 0);
        for (int what : new int[] {-1, 8, 9, Integer.MAX_VALUE, Integer.MIN_VALUE}) {
            Check.due("now(" + what + ")", x.now(what), -1);
        }
        Check.sentence("now: 5: 0 going, 1 up, 2 OUT");
        for (int i = 0; i < 9; i++) {
            Check.due("going at " + i, x.now(5), 0);
            x.go(1);
        }
        Check.due("up", x.now(5), 1);
        Check.sentence("now: 6: the pace of the STEP that is next (FADED: 1; 0: none)");
        int[] paces = {4, 4, 4, 6, 6, 2, 2, 2, 2};
        x.race(0, 0);
        for (int i = 0; i < 9; i++) {
            Check.due("next of " + i, x.now(6), paces[i]);
            x.go(1);
        }
        Check.due("none", x.now(6), 0);
        SackRace y = Check.told("lane a 4 0;man m 2 3 9;hold h 0 0 0;plan p h 9;law cost 1;law ache wind = 0;");
        y.race(0, 0);
        int[] next = {9, 9, 1, 1, 1};
        for (int i = 0; i < 5; i++) {
            Check.due("next of " + i, y.now(6), i < 4 ? next[i] : 0);
            y.go(1);
        }
        SackRace z = Check.told("lane a 9 0;man m 9 3 9;hold h 0 0 0;plan p h 9;law ache 1;law cost 9;");
        z.race(0, 0);
        z.go(2);
        Check.due("FADED", z.now(6), 1);
        z.go(9);
        Check.due("OUT", z.now(5), 2);
        Check.due("OUT: none", z.now(6), 0);
        Check.due("OUT: STEPS done", z.now(0), 3);
    }

    private static void paced() {
        Check.sentence("paced: another one from now on (0: the PLAN's again); false: no such pace");
        SackRace x = Check.told(LANE);
        Check.due("no RACE", x.paced(1), false);
        Check.due("no RACE", x.paced(0), false);
        x.race(0, 0);
        for (int pace = 1; pace <= 9; pace++) {
            Check.due("paced(" + pace + ")", x.paced(pace), true);
            Check.due("next", x.now(6), pace);
            Check.due("the same again", x.paced(pace), true);
        }
        for (int none : new int[] {-1, 10, Integer.MAX_VALUE, Integer.MIN_VALUE}) {
            Check.due("paced(" + none + ")", x.paced(none), false);
            Check.due("stays", x.now(6), 9);
        }
        Check.due("paced(0)", x.paced(0), true);
        Check.due("the PLAN's", x.now(6), 4);
        Check.due("paced(0)", x.paced(0), true);
        Check.sentence("paced: (in all STRETCHES)");
        x.paced(1);
        for (int i = 0; i < 9; i++) {
            Check.due("next of " + i, x.now(6), 1);
            x.go(1);
        }
        Check.due("tenths", x.now(1), 81);
        Check.sentence("paced: false: it isn't going");
        Check.due("up", x.paced(5), false);
        Check.due("up", x.paced(0), false);
        SackRace y = Check.told("lane a 4 0;man m 9 1 9;hold h 0 0 0;hold i 0 0 0;plan p h 9;law ache 1;");
        y.race(0, 0);
        y.go(1);
        Check.due("OUT", y.paced(5), false);
        Check.due("OUT", y.shift(1), -1);
        Check.sentence("paced: a FADED one's is 1 all the same");
        SackRace z = Check.told("lane a 4 0;man m 5 9 9;hold h 0 0 0;plan p h 9;");
        z.race(0, 0);
        z.go(1);
        z.paced(8);
        Check.due("next", z.now(6), 1);
        z.go(1);
        Check.due("tenths", z.now(1), 10);
        Check.due("with wind again", z.now(6), 8);
        Check.sentence("paced: a new RACE goes by its PLAN");
        z.race(0, 0);
        Check.due("next", z.now(6), 9);
    }

    private static void shift() {
        Check.sentence("shift: another one from now on: how long that takes");
        SackRace x = Check.told(LANE);
        Check.due("no RACE", x.shift(1), -1);
        x.race(0, 0);
        x.go(1);
        Check.due("tenths", x.now(1), 6);
        Check.due("the new one's SHIFT", x.shift(1), 7);
        Check.due("at once", x.now(1), 13);
        Check.due("the new one's SHIFT", x.shift(2), 99);
        Check.due("at once", x.now(1), 112);
        Check.due("its HOLD", x.now(7), 2);
        Check.due("wind stays", x.now(2), 29);
        Check.due("no slip", x.now(4), 0);
        Check.due("no STEP", x.now(0), 1);
        Check.due("nothing to undo more", x.count(8), 1);
        x.go(1);
        Check.due("what it costs more", x.now(2), 29 - 1 - 9);
        Check.sentence("shift: NONE: no such HOLD, it is that");
        for (int none : new int[] {2, 3, -1, Integer.MAX_VALUE, Integer.MIN_VALUE}) {
            int tenths = x.now(1);
            Check.due("shift(" + none + ")", x.shift(none), -1);
            Check.due("stays", x.now(1), tenths);
        }
        Check.sentence("shift: SHIFT 0");
        SackRace y = Check.told("lane a 1 0;man m 9 9 9;hold h 0 0 0;hold i 0 0 0;plan p h 4;");
        y.race(0, 0);
        Check.due("shift(1)", y.shift(1), 0);
        Check.due("its HOLD", y.now(7), 1);
        Check.due("shift(0)", y.shift(0), 0);
        y.go(1);
        Check.sentence("shift: NONE: it isn't going");
        Check.due("up", y.shift(1), -1);
        Check.sentence("shift: a new RACE has its PLAN's HOLD");
        x.race(0, 0);
        Check.due("its HOLD", x.now(7), 0);
    }

    private static int[] tellsNow(SackRace x) {
        int[] now = new int[8];
        for (int what = 0; what <= 7; what++) {
            now[what] = x.now(what);
        }
        return now;
    }

    private static void sameNow(String when, SackRace x, int[] due) {
        for (int what = 0; what <= 7; what++) {
            Check.due(when + ", now(" + what + ")", x.now(what), due[what]);
        }
    }

    private static void undo() {
        Check.sentence("undo: The latest STEP (with what was changed since) is undone; NONE: none");
        SackRace x = Check.told(LANE + "seed 21;");
        Check.due("no RACE", x.undo(), -1);
        x.race(0, 1);
        Check.due("no STEP", x.undo(), -1);
        x.paced(8);
        x.shift(0);
        int[] ahead = tellsNow(x);
        Check.due("still none", x.undo(), -1);
        sameNow("what was changed stays", x, ahead);
        x.go(1);
        x.paced(2);
        x.shift(2);
        x.paced(7);
        Check.due("undo", x.undo(), 0);
        sameNow("ahead of it", x, ahead);
        Check.due("undo", x.undo(), -1);
        sameNow("stays", x, ahead);
        x.go(9);
        Check.due("up", x.now(5), 1);
        Check.due("undo", x.undo(), 8);
        Check.due("going again", x.now(5), 0);
        Check.due("paced", x.paced(3), true);
        SackRace y = Check.told("lane a 4 0;man m 9 2 9;hold h 0 0 0;plan p h 9;law ache 1;");
        y.race(0, 0);
        y.go(4);
        Check.due("OUT", y.now(5), 2);
        Check.due("undo", y.undo(), 1);
        Check.due("not OUT", y.now(5), 0);
        Check.due("legs", y.now(3), 1);
        Check.sentence("undo: with its numbers");
        SackRace z = Check.told("lane a 20 0;man m 60 9 9;hold h 0 50 3;plan p h 4;seed 3;");
        z.race(0, 0);
        z.go(20);
        int[] up = tellsNow(z);
        for (int n = 1; n <= 20; n++) {
            for (int i = 0; i < n; i++) {
                z.undo();
            }
            Check.due("go", z.go(n), n);
            sameNow(n + " undone", z, up);
        }
        Check.sentence("undo: the SACK and rain stay");
        z.undo();
        z.go(1);
        z.sack(30);
        z.rain(true);
        z.undo();
        Check.due("SACK", z.count(9), 30);
        Check.due("rain", z.look(0, 3), 1);
    }

    /** Many STEPS with changes between them, undone one by one: each time all is as it was ahead of the STEP. */
    private static void undoAll() {
        Check.sentence("undo: STEPS of the RACE can be undone, the latest first");
        SackRace x = Check.told(LANE + "seed 8;");
        x.race(0, 1);
        int[][] ahead = new int[9][];
        for (int i = 0; i < 9; i++) {
            if (i % 2 == 1) {
                x.paced(i);
            }
            if (i % 3 == 2) {
                x.shift(i / 3);
            }
            ahead[i] = tellsNow(x);
            Check.due("go", x.go(1), 1);
        }
        for (int i = 8; i >= 0; i--) {
            Check.due("undo", x.undo(), i);
            sameNow("ahead of " + i, x, ahead[i]);
            Check.due("count(8)", x.count(8), i);
        }
    }

    private static void undoTwenty() {
        Check.sentence("undo: (20 at most)");
        SackRace x = Check.told("lane a 20 0;lane b 5 0;man m 60 40 9;hold h 0 50 3;plan p h 4 5;law ache 1;");
        x.race(0, 0);
        for (int n = 1; n <= 24; n++) {
            x.go(1);
            Check.due("count(8) behind " + n, x.count(8), Math.min(20, n));
        }
        for (int i = 19; i >= 0; i--) {
            Check.due("undo", x.undo(), i);
            Check.due("STEPS", x.now(0), 4 + i);
            Check.due("legs", x.now(3), 36 - i);
        }
        Check.due("none", x.undo(), -1);
        Check.due("STEPS", x.now(0), 4);
        Check.due("at once", x.go(120), 21);
        Check.due("count(8)", x.count(8), 20);
        Check.due("undo", x.undo(), 19);
        x.go(1);
        Check.due("once more 20", x.count(8), 20);
        x.race(0, 0);
        x.go(20);
        Check.due("just 20", x.count(8), 20);
        for (int i = 19; i >= 0; i--) {
            Check.due("undo", x.undo(), i);
        }
        Check.due("the first one too", x.now(0), 0);
    }

    private static void sack() {
        Check.sentence("sack: so heavy from now on (0 .. 30): true; false: no such number");
        SackRace x = Check.told("lane a 4 0;man m 60 9 9;hold h 0 0 3;plan p h 4;law time heavy + 1;");
        for (int n = 0; n <= 30; n++) {
            Check.due("sack(" + n + ")", x.sack(n), true);
            Check.due("count(9)", x.count(9), n);
            Check.due("run", x.run(0, 0, 0), 4 * (n + 1));
        }
        for (int none : new int[] {-1, 31, Integer.MAX_VALUE, Integer.MIN_VALUE}) {
            Check.due("sack(" + none + ")", x.sack(none), false);
            Check.due("stays", x.count(9), 30);
        }
        x.race(0, 0);
        x.go(1);
        x.sack(0);
        x.go(1);
        x.sack(9);
        x.go(2);
        Check.due("from now on", x.now(1), 31 + 1 + 10 + 10);
    }

    private static void rain() {
        Check.sentence("rain: It rains from now on, or doesn't: how many STRETCHES are WET now");
        for (int wet = 0; wet < 64; wet++) {
            StringBuilder s = new StringBuilder();
            for (int i = 0; i < 6; i++) {
                s.append("lane ").append((char) ('a' + i)).append((wet >> i & 1) == 1 ? " 1 0 wet;" : " 1 0;");
            }
            SackRace x = Check.told(s.toString());
            Check.due("dry", x.rain(false), Integer.bitCount(wet));
            Check.due("rain", x.rain(true), 6);
            Check.due("rain again", x.rain(true), 6);
            Check.due("dry again", x.rain(false), Integer.bitCount(wet));
        }
        Check.due("no STRETCHES", new SackRace().rain(true), 0);
        Check.sentence("text: no rain");
        SackRace y = Check.told("lane a 1 0;");
        y.rain(true);
        Check.tell(y, "lane a 1 0;man m 9 9 9;law time damp;");
        Check.due("look", y.look(0, 3), 0);
        Check.due("law", y.law(0, 0, 0, 1), 0);
    }

    private static void keep() {
        Check.sentence("keep: (in place of one ahead): STEPS done of the RACE; -2: no RACE");
        SackRace x = Check.told(LANE);
        Check.due("no RACE", x.keep(), -2);
        x.race(0, 0);
        Check.due("0 STEPS", x.keep(), 0);
        for (int n = 1; n <= 9; n++) {
            x.go(1);
            Check.due(n + " STEPS", x.keep(), n);
            Check.due("what can be undone stays", x.count(8), n);
        }
        Check.due("up", x.back(), 9);
        Check.due("up", x.now(5), 1);
        Check.due("back again", x.back(), 9);
        Check.sentence("back: (nothing to undo then)");
        x.race(0, 0);
        x.go(3);
        x.keep();
        x.go(2);
        Check.due("5 to undo", x.count(8), 5);
        Check.due("back", x.back(), 3);
        Check.due("none", x.count(8), 0);
        Check.due("none", x.undo(), -1);
        x.go(1);
        Check.due("one", x.undo(), 0);
        Check.due("STEPS", x.now(0), 3);
    }

    private static void back() {
        Check.sentence("back: NONE: there is none");
        SackRace x = Check.told(LANE);
        Check.due("none", x.back(), -1);
        x.race(0, 0);
        x.go(2);
        Check.due("none", x.back(), -1);
        Check.due("nothing else is changed", x.now(0), 2);
        Check.due("what can be undone stays", x.undo(), 1);
        x.keep();
        Check.tell(x, LANE);
        Check.due("no IMAGE in a new TEXT", x.back(), -1);
        Check.tell(x, LANE);
        x.keep();
        Check.tell(x, "!");
        Check.due("a FAULT leaves it", x.back(), -2);
        Check.sentence("back: The RACE, the SACK, rain are as in the IMAGE");
        for (int sack = 0; sack <= 30; sack += 10) {
            for (int rain = 0; rain <= 1; rain++) {
                x.sack(sack);
                x.rain(rain == 1);
                x.keep();
                x.sack(5);
                x.rain(rain == 0);
                Check.due("back", x.back(), -2);
                Check.due("SACK", x.count(9), sack);
                Check.due("rain", x.look(0, 3), rain);
            }
        }
    }

    /** Between IMAGE and back another man runs by another plan, elsewhere on the lane. */
    private static void backToAnother() {
        Check.sentence("back: The RACE is as in the IMAGE, all of it");
        for (int steps = 0; steps <= 9; steps++) {
            SackRace x = Check.told(LANE + "seed 31;law time 10 - pace + weight / 9 + heavy / 8;law cost pace + slope - 6;");
            SackRace y = Check.told(LANE + "seed 31;law time 10 - pace + weight / 9 + heavy / 8;law cost pace + slope - 6;");
            for (SackRace z : new SackRace[] {x, y}) {
                z.race(1, 1);
                z.go(steps);
                z.paced(steps % 4);
                z.shift(2);
                z.sack(7);
            }
            int kept = x.keep();
            x.race(0, 0);
            x.go(4);
            x.paced(9);
            x.shift(1);
            x.sack(28);
            x.rain(true);
            x.go(1);
            Check.due("back", x.back(), kept);
            for (int i = 0; i < 10; i++) {
                sameNow(steps + " kept, " + i + " behind it", x, tellsNow(y));
                Check.due("go", x.go(1), y.go(1));
            }
        }
    }

    private static void backToHisWind() {
        Check.sentence("back: wind is again at most what he, not another one, began with");
        SackRace x = Check.told("lane a 9 0;man m 12 9 9;man n 40 9 9;hold h 0 0 0;plan p h 9;law cost (wind = 12) * 8 - 5;");
        x.race(0, 0);
        x.go(1);
        Check.due("3 less", x.now(2), 9);
        x.keep();
        x.race(1, 0);
        x.go(2);
        Check.due("full", x.now(2), 40);
        x.back();
        x.go(1);
        Check.due("12 at most", x.now(2), 12);
        x.go(1);
        Check.due("3 less", x.now(2), 9);
    }

    private static void backToNone() {
        Check.sentence("back: no RACE in the IMAGE (-2 likewise), the last number");
        SackRace x = Check.told("lane a 20 0;man m 60 9 9;hold h 0 50 3;plan p h 4;seed 3;");
        Check.due("keep", x.keep(), -2);
        x.race(0, 0);
        x.go(20);
        int slips = x.now(4);
        int tenths = x.now(1);
        for (int i = 0; i < 3; i++) {
            Check.due("back", x.back(), -2);
            Check.due("no RACE", x.now(0), -1);
            Check.due("no RACE", x.go(1), -1);
            Check.due("no RACE", x.paced(1), false);
            Check.due("nothing to undo", x.undo(), -1);
            Check.due("keep", x.keep(), -2);
            x.race(0, 0);
            x.go(20);
            Check.due("slips", x.now(4), slips);
            Check.due("tenths", x.now(1), tenths);
        }
        x.race(0, 0);
        x.go(20);
        Check.due("by other numbers", x.now(4) == slips && x.now(1) == tenths, slipsFrom(3, 20) == slipsFrom(3, 40) - slipsFrom(3, 20));
    }

    private static int slipsFrom(long seed, int steps) {
        long last = seed;
        int slips = 0;
        for (int i = 0; i < steps; i++) {
            last = next(last);
            slips += last / 65536 % 100 < 50 ? 1 : 0;
        }
        return slips;
    }
}
