/** Each sentence about BEST and its like (==== 3., promises 19 to 26) that names a boundary case. */
public final class BestBoundsTest {
    private static final String LANE = "lane a 2 3;lane b 3 0 bend;lane c 2 5 wet;man m 14 20 9;man n 9 12 20;"
        + "hold h 1 0 0;hold i 0 50 9;law time 12 - pace + heavy / 6 + weight / 7 + damp * 3;"
        + "law ache slope / 3 + (pace > 7) * 2 + weight / 18 + (pace = 6) * curve;";

    public static void main(String[] args) {
        best();
        ties();
        out();
        asNow();
        farStates();
        farWays();
        paces();
        quick();
        quickOut();
        safe();
        safeWinds();
        held();
        weighed();
        weighedWithin();
        flat();
        alike();
        noStretches();
        noOnes();
        Check.finish("BestBoundsTest");
    }

    /** All plans one by one: the least tenths, and the paces of the first of them; null if he is OUT with all. */
    private static int[] slowest(String text, int man, int hold, int firstPace, int sack, boolean rain) {
        int[] least = null;
        for (int plan = 0; plan < 729; plan++) {
            int[] paces = {plan / 81 + 1, plan / 9 % 9 + 1, plan % 9 + 1};
            if (firstPace == 0 || paces[0] == firstPace) {
                SackRace x = Check.told(text + "plan p " + (hold == 0 ? "h " : "i ") + paces[0] + " " + paces[1] + " " + paces[2] + ";");
                x.sack(sack);
                x.rain(rain);
                int tenths = x.run(man, 0, 0);
                if (tenths >= 0 && (least == null || tenths < least[0])) {
                    least = new int[] {tenths, paces[0], paces[1], paces[2]};
                }
            }
        }
        return least;
    }

    private static void best() {
        Check.sentence("BEST: paces by STRETCHES by which he isn't OUT: the least time");
        SackRace x = Check.told(LANE);
        for (int man = 0; man < 2; man++) {
            for (int hold = 0; hold < 2; hold++) {
                int[] due = slowest(LANE, man, hold, 0, 8, false);
                Check.due("best(" + man + ", " + hold + ")", x.best(man, hold), due == null ? -2 : due[0]);
                for (int i = 0; i < 3; i++) {
                    Check.due("paces(" + man + ", " + hold + ", " + i + ")", x.paces(man, hold, i), due == null ? -2 : due[i + 1]);
                }
            }
        }
    }

    private static void ties() {
        Check.sentence("BEST: of several the first by STRETCHES (the least pace first)");
        SackRace x = Check.told("lane a 1 0;lane b 1 0;lane c 1 0;man m 9 9 9;hold h 0 0 0;law time 7;law cost 0;");
        for (int i = 0; i < 3; i++) {
            Check.due("all alike, STRETCH " + i, x.paces(0, 0, i), 1);
        }
        // one pace 9 must be somewhere: the last STRETCH is its place
        SackRace y = Check.told("lane a 1 0;lane b 1 0;lane c 1 0;man m 9 4 9;hold h 0 0 0;law time 9 - (pace = 9) * 5;"
            + "law cost 0;law ache (pace = 9) * 2;");
        int[] last = {1, 1, 9};
        for (int i = 0; i < 3; i++) {
            Check.due("one of three, STRETCH " + i, y.paces(0, 0, i), last[i]);
        }
        Check.due("its tenths", y.best(0, 0), 22);
        // two of them need not be one behind another
        SackRace z = Check.told("lane a 1 0;lane b 1 0;lane c 1 0;man m 9 5 9;hold h 0 0 0;law time 9 - (pace = 9 or pace = 5) * 5;"
            + "law cost 0;law ache (pace = 9 or pace = 5) * 2;");
        int[] two = {1, 5, 5};
        for (int i = 0; i < 3; i++) {
            Check.due("two of three, STRETCH " + i, z.paces(0, 0, i), two[i]);
        }
        Check.sentence("BEST: of several with other winds behind a STRETCH, too");
        SackRace w = Check.told("lane a 1 0;lane b 1 0;man m 20 9 9;hold h 0 0 0;law time 5 + (wind < 15) * 9;law cost pace;");
        Check.due("the least pace, more wind", w.paces(0, 0, 0), 1);
        SackRace v = Check.told("lane a 1 0;lane b 1 0;man m 20 9 9;hold h 0 0 0;law time 5 + (wind = 19 or wind = 18) * 9;law cost pace;");
        Check.due("the least pace that does it", v.paces(0, 0, 0), 3);
        Check.due("the least pace", v.paces(0, 0, 1), 1);
        Check.due("tenths", v.best(0, 0), 10);
    }

    private static void out() {
        Check.sentence("BEST: -2: there is none");
        String lane = "lane a 2 0;lane b 1 0;man m 9 # 9;hold h 0 0 0;law ache 1 + (pace > 1);law cost 0;";
        SackRace x = Check.told(lane.replace("#", "3"));
        Check.due("three legs are too few", x.best(0, 0), -2);
        for (int i = 0; i < 2; i++) {
            Check.due("paces", x.paces(0, 0, i), -2);
        }
        Check.due("no such STRETCH", x.paces(0, 0, 2), -1);
        SackRace y = Check.told(lane.replace("#", "4"));
        Check.due("four are just enough", y.best(0, 0), 27);
        SackRace z = Check.told(lane.replace("#", "5"));
        Check.due("five let him go quicker at the end", z.best(0, 0), 19);
        Check.due("paces", z.paces(0, 0, 0) * 10 + z.paces(0, 0, 1), 19);
        SackRace w = Check.told(lane.replace("#", "7"));
        Check.due("seven let him go quickly", w.best(0, 0), 3);
    }

    private static void asNow() {
        Check.sentence("BEST and its like: with the SACK and rain as now, each call anew");
        SackRace x = Check.told(LANE);
        for (int sack : new int[] {0, 30}) {
            for (int rain = 0; rain <= 1; rain++) {
                int[] due = slowest(LANE, 1, 0, 0, sack, rain == 1);
                int[] quick = slowest(LANE, 1, 0, 4, sack, rain == 1);
                int[] other = slowest(LANE, 1, 1, 0, sack, rain == 1);
                for (int first = 0; first < 5; first++) {
                    x.sack(15);
                    x.rain(rain == 0);
                    x.best(0, 0);
                    x.sack(sack);
                    x.rain(rain == 1);
                    if (first == 0) {
                        Check.due("best", x.best(1, 0), due[0]);
                    } else if (first == 1) {
                        Check.due("paces", x.paces(1, 0, 0) * 100 + x.paces(1, 0, 1) * 10 + x.paces(1, 0, 2),
                            due[1] * 100 + due[2] * 10 + due[3]);
                    } else if (first == 2) {
                        Check.due("quick", x.quick(1, 0, 4), quick == null ? -2 : quick[0] - due[0]);
                    } else if (first == 3) {
                        Check.due("held", x.held(1, 1), Math.min(due[0], other[0]));
                    } else {
                        Check.due("weighed", x.weighed(1, 0, 0, 1), due[0]);
                    }
                }
            }
        }
        Check.sentence("SAFE and FLAT: with the SACK and rain as now");
        SackRace y = Check.told("lane a 1 5;man m 5 9 9;hold h 0 0 0;law time heavy + damp * 40 + slope;law cost 0;");
        y.sack(30);
        y.rain(true);
        Check.due("safe", y.safe(0, 0, 1, 1), 75);
        Check.due("flat", y.flat(0, 0), 70);
        Check.due("best", y.best(0, 0), 75);
        y.sack(2);
        Check.due("safe", y.safe(0, 0, 1, 1), 47);
        y.rain(false);
        Check.due("safe", y.safe(0, 0, 1, 1), 7);
        Check.due("flat", y.flat(0, 0), 2);
        Check.due("alike in the dry", y.alike(0, 0, 20), 15);
        y.rain(true);
        Check.due("alike in rain", y.alike(0, 0, 50), 5);
        Check.due("weighed in rain", y.weighed(0, 0, 1, 1), 47);
        y.weighed(0, 0, 10, 0);
        y.flat(0, 0);
        y.alike(0, 0, 9);
        Check.due("they leave all as it is", y.best(0, 0), 47);
        Check.due("they leave all as it is", y.run(0, 0, 0), -1);
    }

    /** Winds up to 60 and legs up to 40, of which each is another one behind the first STRETCH. */
    private static void farStates() {
        Check.sentence("BEST: WIND 1 .. 60, LEGS 1 .. 40");
        for (int wind : new int[] {1, 2, 59, 60}) {
            for (int legs : new int[] {1, 2, 39, 40}) {
                SackRace x = Check.told("lane a 1 0;lane b 1 0;man m " + wind + " " + legs + " 9;hold h 0 0 0;law time wind + legs;"
                    + "law cost pace / 5;law ache pace - pace / 2 * 2;");
                Check.due("WIND " + wind + ", LEGS " + legs, x.best(0, 0), bestOfTwo(wind, legs));
            }
        }
    }

    private static int bestOfTwo(int wind, int legs) {
        int least = -2;
        for (int a = 1; a <= 9; a++) {
            for (int b = 1; b <= 9; b++) {
                int pace = wind == 0 ? 1 : a;
                int left = Math.max(0, wind - pace / 5);
                int over = legs - pace % 2;
                int next = left == 0 ? 1 : b;
                if (over > 0 && over - next % 2 > 0) {
                    int tenths = Math.max(1, Math.min(99, wind + legs)) + Math.max(1, Math.min(99, left + over));
                    least = least < 0 || tenths < least ? tenths : least;
                }
            }
        }
        return least;
    }

    /** One pace alone leads to the wind and legs by which the second STRETCH is quick: it must not be mixed up with others. */
    private static void farWays() {
        Check.sentence("BEST: each wind and each legs behind a STRETCH counts for itself");
        for (int pace = 1; pace <= 9; pace++) {
            for (int wind : new int[] {20, 41, 60}) {
                String text = "lane a 1 0;lane b 1 0;man m " + wind + " 40 9;hold h 0 0 0;law cost pace;law ache 10 - pace;"
                    + "law time 50 + pace - (wind = " + (wind - pace) + " and legs = " + (30 + pace) + ") * 49;";
                SackRace x = Check.told(text);
                Check.due("pace " + pace, x.paces(0, 0, 0), pace);
                Check.due("then the least", x.paces(0, 0, 1), 1);
                Check.due("tenths", x.best(0, 0), 50 + pace + 2);
            }
        }
    }

    private static void paces() {
        Check.sentence("paces: The pace of it in a STRETCH");
        SackRace x = Check.told("lane a 1 4;lane b 1 0;lane c 1 8;lane d 1 2;lane e 1 6;lane f 1 7;man m 9 9 9;hold h 0 0 0;"
            + "law time 5 + (pace <> slope + 1) * 9;law cost 0;");
        int[] due = {5, 1, 9, 3, 7, 8};
        for (int i = 0; i < 6; i++) {
            Check.due("STRETCH " + i, x.paces(0, 0, i), due[i]);
        }
        for (int none : new int[] {6, 7, -1, Integer.MAX_VALUE, Integer.MIN_VALUE}) {
            Check.due("STRETCH " + none, x.paces(0, 0, none), -1);
        }
        Check.due("behind another search", x.quick(0, 0, 2), 9);
        Check.due("STRETCH 0", x.paces(0, 0, 0), 5);
    }

    private static void quick() {
        Check.sentence("QUICK: the same with the first STRETCH at a told pace: tenths more than BEST");
        SackRace x = Check.told(LANE);
        for (int man = 0; man < 2; man++) {
            int best = x.best(man, 1);
            for (int pace = 1; pace <= 9; pace++) {
                int[] due = slowest(LANE, man, 1, pace, 8, false);
                Check.due("quick(" + man + ", 1, " + pace + ")", x.quick(man, 1, pace), due == null ? -2 : due[0] - best);
            }
            Check.due("0 at BEST's own", x.quick(man, 1, x.paces(man, 1, 0)), 0);
        }
        Check.sentence("QUICK: with the SACK and rain as now, ahead of all other calls");
        SackRace z = Check.told("lane a 1 0;man m 60 9 9;hold h 0 0 0;law time 80 - pace * (heavy / 10 + damp * 4);law cost 0;");
        for (int sack = 0; sack <= 30; sack += 10) {
            for (int rain = 0; rain <= 1; rain++) {
                z.sack(sack);
                z.rain(rain == 1);
                Check.due("SACK " + sack + ", rain " + rain, z.quick(0, 0, 4), 5 * (sack / 10 + rain * 4));
            }
        }
        Check.sentence("quick: NONE: no such ones, no STRETCHES");
        for (int none : new int[] {0, 10, -1, Integer.MAX_VALUE, Integer.MIN_VALUE}) {
            Check.due("pace " + none, x.quick(0, 0, none), -1);
        }
        SackRace y = Check.told("man m 9 9 9;hold h 0 0 0;");
        for (int pace = 0; pace <= 10; pace++) {
            Check.due("no STRETCHES, pace " + pace, y.quick(0, 0, pace), -1);
        }
    }

    private static void quickOut() {
        Check.sentence("quick: -2: there is none");
        SackRace x = Check.told("lane a 2 0;lane b 1 0;man m 9 4 9;hold h 0 0 0;law ache 1 + (pace > 3);law cost 0;");
        Check.due("pace 3", x.quick(0, 0, 3), 0);
        Check.due("pace 1", x.quick(0, 0, 1), 4);
        Check.due("pace 4", x.quick(0, 0, 4), -2);
        Check.due("pace 9", x.quick(0, 0, 9), -2);
        Check.due("BEST is there", x.best(0, 0), 21);
        SackRace y = Check.told("lane a 2 0;man m 9 2 9;hold h 0 0 0;law ache 1;");
        Check.due("no BEST either", y.quick(0, 0, 1), -2);
    }

    private static void safe() {
        Check.sentence("SAFE: the least time with his own, of several the least pace");
        String lane = "lane a 1 0;lane b 1 0;man m 8 9 9;hold h 0 0 0;law cost 0;";
        SackRace x = Check.told(lane + "law time 9 - (pace = 4 or pace = 7) * 2 + (wind < 8) * pace;");
        Check.due("pace", x.safe(0, 0, 1, 0), 4);
        Check.due("tenths", x.safe(0, 0, 1, 1), 14);
        SackRace y = Check.told(lane + "law time 5;");
        Check.due("all alike", y.safe(0, 0, 1, 0), 1);
        Check.sentence("SAFE: one pace for all");
        SackRace z = Check.told("lane a 1 0;lane b 1 3;man m 8 9 9;hold h 0 0 0;law cost 0;law time 9 + (pace <> 5 + slope) * 9;");
        Check.due("BEST goes by two", z.best(0, 0), 18);
        Check.due("SAFE by one", z.safe(0, 0, 8, 1), 27);
        Check.due("the least that does so", z.safe(0, 0, 8, 0), 5);
        Check.sentence("safe: -2: there is none");
        SackRace w = Check.told("lane a 1 0;man m 8 3 9;hold h 0 0 0;law ache 3 * (wind < 4);");
        Check.due("from 4", w.safe(0, 0, 4, 0), 9);
        Check.due("from 3", w.safe(0, 0, 3, 0), -2);
        Check.due("from 3", w.safe(0, 0, 3, 1), -2);
        Check.due("from 1", w.safe(0, 0, 1, 0), -2);
        SackRace v = Check.told("lane a 1 0;man m 8 3 9;hold h 0 0 0;law ache 3 * (wind = 8);");
        Check.due("his own counts", v.safe(0, 0, 8, 0), -2);
        Check.due("his own counts", v.safe(0, 0, 1, 0), -2);
    }

    private static void safeWinds() {
        Check.sentence("SAFE: with any WIND from a told one up to his own (at first and at most)");
        // with WIND 5 at first pace 9 makes him OUT, with all others it doesn't
        SackRace x = Check.told("lane a 1 0;man m 8 3 9;hold h 0 0 0;law ache 3 * (wind = 5 and pace = 9);law cost 0;");
        int[] due = {8, 8, 8, 8, 8, 9, 9, 9};
        for (int wind = 1; wind <= 8; wind++) {
            Check.due("from " + wind, x.safe(0, 0, wind, 0), due[wind - 1]);
            Check.due("tenths from " + wind, x.safe(0, 0, wind, 1), 10 - due[wind - 1]);
        }
        // wind is at most what he began with, so with 3 at first it is never 4
        SackRace y = Check.told("lane a 1 0;lane b 1 0;man m 5 3 9;hold h 0 0 0;law ache 3 * (wind = 4 and pace > 2);law cost 0 - 1;");
        Check.due("from 5", y.safe(0, 0, 5, 0), 9);
        Check.due("from 4", y.safe(0, 0, 4, 0), 2);
        SackRace z = Check.told("lane a 1 0;lane b 1 0;man m 3 3 9;hold h 0 0 0;law ache 3 * (wind = 4 and pace > 2);law cost 0 - 1;");
        Check.due("never 4", z.safe(0, 0, 1, 0), 9);
        Check.sentence("safe: a WIND (1 .. his own)");
        for (int none : new int[] {0, 9, -1, 60, Integer.MAX_VALUE, Integer.MIN_VALUE}) {
            Check.due("from " + none, x.safe(0, 0, none, 0), -1);
        }
        for (int none : new int[] {2, 3, -1, Integer.MAX_VALUE, Integer.MIN_VALUE}) {
            Check.due("what " + none, x.safe(0, 0, 8, none), -1);
        }
    }

    private static void held() {
        Check.sentence("HELD: the HOLD with the least time of BEST (the first of several)");
        // what a HOLD costs more makes him slower from the second STEP on
        String lane = "lane a 2 0;man m 9 9 9;law time 20 - wind;law cost 0;";
        Check.due("the second", Check.told(lane + "hold h 3 0 0;hold i 1 0 0;hold j 2 0 0;").held(0, 0), 1);
        Check.due("the last", Check.told(lane + "hold h 3 0 0;hold i 2 0 0;hold j 1 0 0;").held(0, 0), 2);
        Check.due("the first", Check.told(lane + "hold h 0 0 0;hold i 2 0 0;hold j 1 0 0;").held(0, 0), 0);
        Check.due("the first of several", Check.told(lane + "hold h 1 0 0;hold i 1 0 0;hold j 1 0 0;").held(0, 0), 0);
        Check.due("the first of two", Check.told(lane + "hold h 2 0 0;hold i 1 0 0;hold j 1 0 0;").held(0, 0), 1);
        SackRace x = Check.told(lane + "hold h 3 99 99;hold i 1 99 99;");
        Check.due("slips and SHIFTS don't count", x.held(0, 1), x.best(0, 1));
        Check.due("one alone", Check.told(lane + "hold h 1 0 0;").held(0, 0), 0);
        Check.sentence("held: -2: he is OUT with all");
        SackRace y = Check.told("lane a 2 0;man m 9 3 9;hold h 9 0 0;hold i 8 0 0;hold j 0 0 0;law ache (wind < 9) * 3;law cost 0;");
        Check.due("OUT with two", y.held(0, 0), 2);
        Check.due("tenths", y.held(0, 1), 2);
        y = Check.told("lane a 2 0;man m 9 3 9;hold h 9 0 0;hold i 8 0 0;hold j 1 0 0;law ache (wind < 9) * 3;law cost 0;");
        Check.due("OUT with all", y.held(0, 0), -2);
        Check.due("OUT with all", y.held(0, 1), -2);
        Check.sentence("held: NONE: no such ones, no HOLDS");
        Check.due("no HOLDS", Check.told(lane).held(0, 0), -1);
        Check.due("no HOLDS", Check.told(lane).held(0, 1), -1);
        for (int none : new int[] {2, -1, Integer.MAX_VALUE, Integer.MIN_VALUE}) {
            Check.due("what " + none, x.held(0, none), -1);
        }
    }

    private static void weighed() {
        Check.sentence("WEIGHED: that with the least time of BEST, of several the least");
        SackRace x = Check.told("lane a 1 0;man m 9 9 15;hold h 0 0 0;law time 9 + (weight - 15) * (weight - 15);law cost 0;");
        Check.due("his own", x.weighed(0, 0, 10, 0), 15);
        SackRace y = Check.told("lane a 1 0;man m 9 9 15;hold h 0 0 0;law time 40 - (weight - 15) * (weight - 15);law cost 0;");
        for (int n = 0; n <= 6; n++) {
            Check.due("of two the least", y.weighed(0, 0, n, 0), 15 - n);
            Check.due("tenths", y.weighed(0, 0, n, 1), Math.max(1, 40 - n * n));
        }
        SackRace z = Check.told("lane a 1 0;man m 9 9 15;hold h 0 0 0;law time 7;");
        for (int n = 0; n <= 10; n++) {
            Check.due("all alike", z.weighed(0, 0, n, 0), 15 - n);
        }
        Check.sentence("weighed: (n 0 .. 10)");
        for (int none : new int[] {-1, 11, 12, Integer.MAX_VALUE, Integer.MIN_VALUE}) {
            Check.due("n " + none, z.weighed(0, 0, none, 0), -1);
        }
        for (int none : new int[] {2, -1, Integer.MAX_VALUE, Integer.MIN_VALUE}) {
            Check.due("what " + none, z.weighed(0, 0, 1, none), -1);
        }
        Check.sentence("weighed: -2: there is none");
        SackRace w = Check.told("lane a 1 0;man m 9 5 15;hold h 0 0 0;law ache (weight < 18) * 5;");
        Check.due("n 2", w.weighed(0, 0, 2, 0), -2);
        Check.due("n 2", w.weighed(0, 0, 2, 1), -2);
        Check.due("n 3", w.weighed(0, 0, 3, 0), 18);
        Check.due("n 3", w.weighed(0, 0, 3, 1), 1);
    }

    private static void weighedWithin() {
        Check.sentence("WEIGHED: of WEIGHTS n less to n more than his own (1 .. 30)");
        for (int own : new int[] {1, 2, 5, 10, 11, 20, 21, 29, 30}) {
            for (int n : new int[] {0, 1, 2, 9, 10}) {
                String text = "lane a 1 0;man m 9 9 " + own + ";hold h 0 0 0;law time ";
                int low = Math.max(1, own - n);
                int high = Math.min(30, own + n);
                SackRace x = Check.told(text + "weight + 1;");
                Check.due(own + " and " + n + " less", x.weighed(0, 0, n, 0), low);
                Check.due(own + " and " + n + " less", x.weighed(0, 0, n, 1), low + 1);
                SackRace y = Check.told(text + "40 - weight;");
                Check.due(own + " and " + n + " more", y.weighed(0, 0, n, 0), high);
                Check.due(own + " and " + n + " more", y.weighed(0, 0, n, 1), 40 - high);
            }
        }
        Check.sentence("WEIGHED: by BEST, up the slope and at all paces");
        SackRace z = Check.told("lane a 3 4;lane b 2 1;man m 9 9 15;hold h 0 0 0;law time 12 - pace + slope + weight / 5;");
        Check.due("his own", z.weighed(0, 0, 0, 1), z.best(0, 0));
        int less = Check.told("lane a 3 4;lane b 2 1;man m 9 9 5;hold h 0 0 0;law time 12 - pace + slope + weight / 5;").best(0, 0);
        Check.due("the lightest", z.weighed(0, 0, 10, 1), less);
        Check.due("the lightest", z.weighed(0, 0, 10, 0), 5);
    }

    private static void flat() {
        Check.sentence("FLAT: BEST, if no STRETCH had a SLOPE");
        SackRace x = Check.told(LANE);
        SackRace y = Check.told(LANE.replace("lane a 2 3", "lane a 2 0").replace("lane c 2 5", "lane c 2 0"));
        for (int rain = 0; rain <= 1; rain++) {
            for (int man = 0; man < 2; man++) {
                for (int hold = 0; hold < 2; hold++) {
                    x.rain(rain == 1);
                    y.rain(rain == 1);
                    Check.due("flat(" + man + ", " + hold + ")", x.flat(man, hold), y.best(man, hold));
                    Check.due("of no SLOPE at all", y.flat(man, hold), y.best(man, hold));
                    Check.due("BEND and WET stay", x.look(1, 2) * 10 + x.look(2, 3), 11);
                }
            }
        }
        Check.due("SLOPE stays", x.look(2, 1), 5);
        Check.sentence("flat: -2: there is none");
        SackRace z = Check.told("lane a 1 5;man m 9 2 9;man n 9 1 9;hold h 0 0 0;law ache 1 + slope;");
        Check.due("up the slope", z.best(0, 0), -2);
        Check.due("flat", z.flat(0, 0), 1);
        Check.due("not even flat", z.flat(1, 0), -2);
    }

    private static void alike() {
        Check.sentence("ALIKE: of SACKS 0 .. 30 the heaviest with which BEST takes at most so many tenths");
        SackRace x = Check.told("lane a 1 0;man m 9 9 9;hold h 0 0 0;law time 20 + heavy;law cost 0;");
        for (int tenths = 19; tenths <= 51; tenths++) {
            Check.due("alike " + tenths, x.alike(0, 0, tenths), tenths < 20 ? -2 : Math.min(30, tenths - 20));
        }
        Check.due("the SACK stays", x.count(9), 8);
        SackRace y = Check.told("lane a 1 0;man m 9 9 9;hold h 0 0 0;law time 90 - heavy;law cost 0;");
        Check.due("a heavier one is quicker", y.alike(0, 0, 60), 30);
        Check.due("none", y.alike(0, 0, 59), -2);
        SackRace z = Check.told("lane a 1 0;man m 9 9 9;hold h 0 0 0;law time 50 - (heavy = 17 or heavy = 3) * 40;law ache (heavy = 17) * 9;");
        Check.due("OUT with 17", z.alike(0, 0, 10), 3);
        Check.due("tenths 9", z.alike(0, 0, 9), -2);
        Check.sentence("ALIKE: by BEST, up the slope and at all paces");
        String lane = "lane a 3 4;lane b 2 1;man m 9 9 15;hold h 0 0 0;law time 12 - pace + slope + heavy / 5;";
        SackRace w = Check.told(lane);
        for (int sack = 0; sack <= 30; sack += 5) {
            w.sack(sack);
            int best = w.best(0, 0);
            Check.due("as heavy as takes no more", w.alike(0, 0, best), Math.min(30, sack + 4));
            Check.due("a tenth less", w.alike(0, 0, best - 1), sack == 0 ? -2 : sack - 1);
        }
        Check.sentence("alike: NONE: no such ones (tenths 0 .. 9999)");
        for (int none : new int[] {-1, 10000, Integer.MAX_VALUE, Integer.MIN_VALUE}) {
            Check.due("tenths " + none, x.alike(0, 0, none), -1);
        }
        Check.due("tenths 9999", x.alike(0, 0, 9999), 30);
        Check.due("tenths 0", x.alike(0, 0, 0), -2);
        Check.sentence("ALIKE: a BEST beyond 9999 tenths is never at most so many");
        SackRace v = Check.told("lane a 20 0;lane b 20 0;lane c 20 0;lane d 20 0;lane e 20 0;lane f 2 0;man m 9 9 9;hold h 0 0 0;law time 99 - (heavy < 4);");
        Check.due("102 times 98", v.alike(0, 0, 9999), 3);
        Check.due("102 times 99", v.best(0, 0), 10098);
    }

    private static void noStretches() {
        Check.sentence("BEST of no STRETCHES: nothing to run");
        SackRace x = Check.told("man m 9 9 15;hold h 0 0 0;hold i 0 0 0;");
        Check.due("best", x.best(0, 1), 0);
        Check.due("paces", x.paces(0, 0, 0), -1);
        Check.due("safe", x.safe(0, 0, 1, 0), 1);
        Check.due("safe", x.safe(0, 0, 1, 1), 0);
        Check.due("held", x.held(0, 0), 0);
        Check.due("held", x.held(0, 1), 0);
        Check.due("weighed", x.weighed(0, 0, 10, 0), 5);
        Check.due("weighed", x.weighed(0, 0, 10, 1), 0);
        Check.due("flat", x.flat(0, 0), 0);
        Check.due("alike", x.alike(0, 0, 0), 30);
    }

    private static void noOnes() {
        Check.sentence("NONE: no such ones");
        SackRace x = Check.told("lane a 1 0;man m 9 9 9;man n 9 9 9;hold h 0 0 0;");
        for (int none : new int[] {2, 5, -1, Integer.MAX_VALUE, Integer.MIN_VALUE}) {
            Check.due("best, man " + none, x.best(none, 0), -1);
            Check.due("paces, man " + none, x.paces(none, 0, 0), -1);
            Check.due("quick, man " + none, x.quick(none, 0, 1), -1);
            Check.due("safe, man " + none, x.safe(none, 0, 1, 0), -1);
            Check.due("held, man " + none, x.held(none, 0), -1);
            Check.due("weighed, man " + none, x.weighed(none, 0, 0, 0), -1);
            Check.due("flat, man " + none, x.flat(none, 0), -1);
            Check.due("alike, man " + none, x.alike(none, 0, 0), -1);
        }
        for (int none : new int[] {1, 3, -1, Integer.MAX_VALUE, Integer.MIN_VALUE}) {
            Check.due("best, hold " + none, x.best(0, none), -1);
            Check.due("paces, hold " + none, x.paces(0, none, 0), -1);
            Check.due("quick, hold " + none, x.quick(0, none, 1), -1);
            Check.due("safe, hold " + none, x.safe(0, none, 1, 0), -1);
            Check.due("weighed, hold " + none, x.weighed(0, none, 0, 0), -1);
            Check.due("flat, hold " + none, x.flat(0, none), -1);
            Check.due("alike, hold " + none, x.alike(0, none, 0), -1);
        }
        Check.due("the last MAN", x.best(1, 0), 1);
    }
}
