/** Promises 19 to 26: best, paces, quick, safe, held, weighed, flat, alike. */
public final class BestTest {
    private static final String LANE = "lane a 2 0;lane b 2 3;man m 6 10 9;man n 6 2 9;hold h 0 0 0;hold i 1 0 0;hold j 0 0 0;";

    public static void main(String[] args) {
        best();
        ties();
        out();
        quick();
        safe();
        held();
        weighed();
        flat();
        alike();
        sixStretches();
        noStretches();
        Check.finish("BestTest");
    }

    /** Compared with the RUNS of all plans of two paces. */
    private static void best() {
        SackRace x = Check.told(LANE);
        int least = Integer.MAX_VALUE;
        int first = 0;
        int second = 0;
        for (int a = 1; a <= 9; a++) {
            for (int b = 1; b <= 9; b++) {
                SackRace y = Check.told(LANE + "plan p h " + a + " " + b + ";");
                if (y.run(0, 0, 0) < least) {
                    least = y.run(0, 0, 0);
                    first = a;
                    second = b;
                }
            }
        }
        Check.due("best", x.best(0, 0), least);
        Check.due("first", x.paces(0, 0, 0), first);
        Check.due("second", x.paces(0, 0, 1), second);
        Check.due("best with a hold that costs", x.best(0, 1) > least, true);
        Check.due("man 2", x.best(2, 0), -1);
        Check.due("hold 3", x.best(0, 3), -1);
        Check.due("man -1", x.best(-1, 0), -1);
        Check.due("paces man 2", x.paces(2, 0, 0), -1);
        Check.due("paces hold 3", x.paces(0, 3, 0), -1);
        Check.due("paces stretch 2", x.paces(0, 0, 2), -1);
        Check.due("paces stretch -1", x.paces(0, 0, -1), -1);
        x.sack(30);
        x.rain(true);
        Check.due("no law names them", x.best(0, 0), least);
    }

    private static void ties() {
        SackRace x = Check.told("lane a 1 0;lane b 1 0;man m 9 9 9;hold h 0 0 0;law time 12 - (pace > 3) * 3;law cost 0;");
        Check.due("best", x.best(0, 0), 18);
        Check.due("the least pace", x.paces(0, 0, 0), 4);
        Check.due("the least pace", x.paces(0, 0, 1), 4);
        SackRace y = Check.told("lane a 1 0;lane b 1 0;man m 9 9 9;hold h 0 0 0;law time 12 - (pace = 9) * 3;law cost 0;"
            + "law ache (pace = 9) * 5;");
        Check.due("but one of them", y.best(0, 0), 21);
        Check.due("the first by stretches", y.paces(0, 0, 0), 1);
        Check.due("the first by stretches", y.paces(0, 0, 1), 9);
    }

    private static void out() {
        SackRace x = Check.told(LANE + "law ache 1;");
        Check.due("out", x.best(1, 0), -2);
        Check.due("out", x.paces(1, 0, 1), -2);
        Check.due("out", x.quick(1, 0, 1), -2);
        Check.due("out", x.safe(1, 0, 1, 0), -2);
        Check.due("out", x.safe(1, 0, 1, 1), -2);
        Check.due("out", x.held(1, 0), -2);
        Check.due("out", x.held(1, 1), -2);
        Check.due("out", x.weighed(1, 0, 3, 0), -2);
        Check.due("out", x.weighed(1, 0, 3, 1), -2);
        Check.due("out", x.flat(1, 0), -2);
        Check.due("out", x.alike(1, 0, 9999), -2);
        Check.due("out, but no such stretch", x.paces(1, 0, 2), -1);
        Check.due("another one isn't", x.best(0, 0) > 0, true);
    }

    private static void quick() {
        SackRace x = Check.told("lane a 2 0;lane b 2 0;man m 6 10 9;hold h 0 0 0;law ache (pace - 5) * (pace > 5);");
        for (int pace = 1; pace <= 9; pace++) {
            int least = -2;
            for (int b = 1; b <= 9; b++) {
                int tenths = Check.told("lane a 2 0;lane b 2 0;man m 6 10 9;hold h 0 0 0;plan p h " + pace + " " + b
                    + ";law ache (pace - 5) * (pace > 5);").run(0, 0, 0);
                least = tenths >= 0 && (least < 0 || tenths < least) ? tenths : least;
            }
            Check.due("quick " + pace, x.quick(0, 0, pace), least < 0 ? -2 : least - x.best(0, 0));
        }
        Check.due("pace 0", x.quick(0, 0, 0), -1);
        Check.due("pace 10", x.quick(0, 0, 10), -1);
        Check.due("man 1", x.quick(1, 0, 1), -1);
        Check.due("hold 1", x.quick(0, 1, 1), -1);
    }

    /** With wind below 5 pace 9 hurts, so whoever may begin with less must go otherwise. */
    private static void safe() {
        SackRace x = Check.told("lane a 1 0;man m 6 3 9;hold h 0 0 0;law ache (wind < 5 and pace = 9) * 3;");
        Check.due("from 6", x.safe(0, 0, 6, 0), 9);
        Check.due("from 5", x.safe(0, 0, 5, 1), 1);
        Check.due("from 4", x.safe(0, 0, 4, 0), 8);
        Check.due("from 1", x.safe(0, 0, 1, 1), 2);
        Check.due("from 0", x.safe(0, 0, 0, 0), -1);
        Check.due("from 7", x.safe(0, 0, 7, 0), -1);
        Check.due("what 2", x.safe(0, 0, 1, 2), -1);
        Check.due("man 1", x.safe(1, 0, 1, 0), -1);
        Check.due("hold 1", x.safe(0, 1, 1, 0), -1);
        SackRace y = Check.told("lane a 1 0;lane b 1 0;man m 6 3 9;hold h 0 0 0;law cost 0 - 9;law ache (wind = 6) * (pace > 1) * 3;");
        Check.due("wind at most is his own", y.safe(0, 0, 1, 0), 1);
        SackRace z = Check.told("lane a 1 0;man m 6 3 9;hold h 0 0 0;law time 5;");
        Check.due("the least pace", z.safe(0, 0, 1, 0), 1);
    }

    private static void held() {
        SackRace x = Check.told("lane a 4 2;man m 9 9 9;hold h 3 0 0;hold i 1 0 0;hold j 1 0 0;");
        Check.due("hold", x.held(0, 0), 1);
        Check.due("tenths", x.held(0, 1), x.best(0, 1));
        Check.due("what 2", x.held(0, 2), -1);
        Check.due("what -1", x.held(0, -1), -1);
        Check.due("man 1", x.held(1, 0), -1);
        Check.due("no holds", Check.told("lane a 1 0;man m 9 9 9;").held(0, 0), -1);
    }

    private static void weighed() {
        SackRace x = Check.told("lane a 1 0;man m 9 9 9;man n 9 9 30;man o 9 9 1;hold h 0 0 0;"
            + "law time 20 + (weight - 12) * (weight - 12);law cost 0;");
        Check.due("n 2", x.weighed(0, 0, 2, 0), 11);
        Check.due("n 2", x.weighed(0, 0, 2, 1), 21);
        Check.due("n 10", x.weighed(0, 0, 10, 0), 12);
        Check.due("n 10", x.weighed(0, 0, 10, 1), 20);
        Check.due("n 0", x.weighed(0, 0, 0, 0), 9);
        Check.due("up to 30", x.weighed(1, 0, 1, 0), 29);
        Check.due("down from 1", x.weighed(2, 0, 1, 0), 1);
        Check.due("his own", x.best(0, 0), 29);
        Check.due("n 11", x.weighed(0, 0, 11, 0), -1);
        Check.due("n -1", x.weighed(0, 0, -1, 0), -1);
        Check.due("what 2", x.weighed(0, 0, 1, 2), -1);
        Check.due("man 3", x.weighed(3, 0, 1, 0), -1);
        Check.due("hold 1", x.weighed(0, 1, 1, 0), -1);
        SackRace y = Check.told("lane a 1 0;man m 9 9 1;man n 9 9 30;hold h 0 0 0;law time weight;law ache (weight < 28) * 9;");
        Check.due("none below 1", y.weighed(0, 0, 10, 0), -2);
        Check.due("the lighter are out", y.weighed(1, 0, 10, 0), 28);
        SackRace z = Check.told("lane a 1 0;man m 9 9 28;hold h 0 0 0;law time 40 - weight;");
        Check.due("30 at most", z.weighed(0, 0, 5, 0), 30);
        SackRace w = Check.told("lane a 1 0;man m 9 9 3;hold h 0 0 0;law time weight + 3;");
        Check.due("1 at least", w.weighed(0, 0, 5, 0), 1);
    }

    private static void flat() {
        SackRace x = Check.told("lane a 3 9;lane b 2 5;man m 9 9 9;hold h 0 0 0;law time 10 + slope - pace;");
        SackRace y = Check.told("lane a 3 0;lane b 2 0;man m 9 9 9;hold h 0 0 0;law time 10 + slope - pace;");
        Check.due("flat", x.flat(0, 0), y.best(0, 0));
        Check.due("best stays", x.best(0, 0) > x.flat(0, 0), true);
        Check.due("man 1", x.flat(1, 0), -1);
        Check.due("hold 1", x.flat(0, 1), -1);
    }

    private static void alike() {
        SackRace x = Check.told("lane a 1 0;man m 9 9 9;hold h 0 0 0;law time heavy + (heavy = 7) * 30;law cost 0;load 30;");
        Check.due("10 tenths", x.alike(0, 0, 10), 10);
        Check.due("7 tenths", x.alike(0, 0, 7), 6);
        Check.due("30 tenths", x.alike(0, 0, 30), 30);
        Check.due("9999 tenths", x.alike(0, 0, 9999), 30);
        Check.due("1 tenth", x.alike(0, 0, 1), 1);
        Check.due("0 tenths", x.alike(0, 0, 0), -2);
        Check.due("10000 tenths", x.alike(0, 0, 10000), -1);
        Check.due("-1 tenths", x.alike(0, 0, -1), -1);
        Check.due("man 1", x.alike(1, 0, 1), -1);
        Check.due("hold 1", x.alike(0, 1, 1), -1);
        Check.due("the sack stays", x.count(9), 30);
        SackRace y = Check.told("lane a 1 0;man m 9 9 9;hold h 0 0 0;law time heavy + 3;");
        Check.due("none but sack 0", y.alike(0, 0, 3), 0);
        Check.due("not even sack 0", y.alike(0, 0, 2), -2);
    }

    /** All six STRETCHES, each of which wants another pace. */
    private static void sixStretches() {
        SackRace x = Check.told("lane a 20 1;lane b 20 2;lane c 20 3;lane d 20 4;lane e 20 5;lane f 20 6;man m 9 9 9;"
            + "hold h 0 0 0;law time 9 + (pace <> slope + 2) * 90;law cost 0;");
        Check.due("best", x.best(0, 0), 9 * 120);
        for (int i = 0; i < 6; i++) {
            Check.due("pace in " + i, x.paces(0, 0, i), i + 3);
        }
        Check.due("quick", x.quick(0, 0, 1), 90 * 20);
    }

    private static void noStretches() {
        SackRace x = Check.told("man m 5 5 9;hold h 0 0 0;");
        Check.due("best", x.best(0, 0), 0);
        Check.due("paces", x.paces(0, 0, 0), -1);
        Check.due("quick", x.quick(0, 0, 1), -1);
        Check.due("safe", x.safe(0, 0, 1, 0), 1);
        Check.due("held", x.held(0, 1), 0);
        Check.due("weighed", x.weighed(0, 0, 3, 0), 6);
        Check.due("flat", x.flat(0, 0), 0);
        Check.due("alike", x.alike(0, 0, 0), 30);
    }
}
