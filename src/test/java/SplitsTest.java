/** Promises 28 to 31: note, strike, known, fits. */
public final class SplitsTest {
    private static final String LANE = "lane a 2 0;lane b 2 3;man m 6 10 9;man n 6 10 9;hold h 0 0 0;plan p h 5 4;plan q h 9;"
        + "law ache slope;";

    public static void main(String[] args) {
        note();
        strike();
        known();
        fits();
        outHasNone();
        asNow();
        Check.finish("SplitsTest");
    }

    private static void note() {
        SackRace x = Check.told(LANE);
        Check.due("man 2", x.note(2, 0, 0, 0), -1);
        Check.due("plan 2", x.note(0, 2, 0, 0), -1);
        Check.due("stretch 2", x.note(0, 0, 2, 0), -1);
        Check.due("stretch -1", x.note(0, 0, -1, 0), -1);
        Check.due("tenths -1", x.note(0, 0, 0, -1), -1);
        Check.due("tenths 100000", x.note(0, 0, 0, 100000), -1);
        for (int i = 0; i < 24; i++) {
            Check.due("note", x.note(i % 2, 0, i % 2, i == 0 ? 99999 : 0), i);
        }
        Check.due("there are 24", x.note(0, 0, 0, 0), -1);
        Check.due("there are 24", x.strike(0), -1);
        Check.due("count", x.count(6), 24);
    }

    private static void strike() {
        SackRace x = Check.told(LANE);
        Check.due("none", x.strike(0), -1);
        x.note(0, 0, 0, 99);
        Check.due("fits", x.fits(0, 0), 0);
        Check.due("strike(1)", x.strike(1), -1);
        Check.due("strike(-1)", x.strike(-1), -1);
        Check.due("strike(0)", x.strike(0), 1);
        Check.due("struck", x.fits(0, 0), 2400);
        Check.due("strike(1)", x.strike(1), 2);
        Check.due("the strike is struck", x.fits(0, 0), 0);
        Check.due("strike(2)", x.strike(2), 3);
        Check.due("that one too", x.fits(0, 0), 2400);
        x.known(3);
        Check.due("but not by three", x.fits(0, 0), 0);
        x.known(2);
        Check.due("by two", x.fits(0, 0), 2400);
        x.known(-1);
        x.strike(1);
        Check.due("once more", x.fits(0, 0), 0);
        x.strike(0);
        Check.due("another strike of the same", x.fits(0, 0), 2400);
    }

    private static void known() {
        SackRace x = Check.told(LANE);
        Check.due("known(0)", x.known(0), true);
        Check.due("known(1)", x.known(1), false);
        Check.due("known(-2)", x.known(-2), false);
        x.note(0, 0, 0, 10);
        x.note(0, 0, 0, 11);
        Check.due("by none", x.fits(0, 0), 2400);
        Check.due("known(1)", x.known(1), true);
        Check.due("by one", x.fits(0, 0) > 0 && x.fits(0, 0) < 2400, true);
        Check.due("known(3)", x.known(3), false);
        Check.due("stays", x.count(7), 1);
        Check.due("known(2)", x.known(2), true);
        Check.due("at odds", x.fits(0, 0), 0);
        x.note(0, 0, 0, 10);
        x.known(3);
        Check.due("the last one alone doesn't count", x.fits(0, 0), 0);
        x.strike(1);
        x.known(4);
        Check.due("told twice", x.fits(0, 0) > 0, true);
        x.known(-1);
        x.strike(0);
        Check.due("also those to come", x.count(7), 5);
    }

    /** Counted once more by objects whose man is another one each. */
    private static void fits() {
        SackRace x = Check.told(LANE);
        for (int i = 0; i <= 4; i++) {
            Check.due("all", x.fits(0, i), new int[] {2400, 1, 60, 1, 40}[i]);
        }
        x.note(0, 0, 1, 22);
        x.note(0, 1, 0, 2);
        x.note(1, 0, 0, 77);
        int[] due = {0, 99, 0, 99, 0};
        for (int wind = 1; wind <= 60; wind++) {
            for (int legs = 1; legs <= 40; legs++) {
                SackRace y = Check.told("lane a 2 0;lane b 2 3;man m " + wind + " " + legs
                    + " 9;hold h 0 0 0;plan p h 5 4;plan q h 9;law ache slope;");
                if (y.split(0, 0, 1) == 22 && y.split(0, 1, 0) == 2) {
                    due[0]++;
                    due[1] = Math.min(due[1], wind);
                    due[2] = Math.max(due[2], wind);
                    due[3] = Math.min(due[3], legs);
                    due[4] = Math.max(due[4], legs);
                }
            }
        }
        for (int i = 0; i <= 4; i++) {
            Check.due("fits(0, " + i + ")", x.fits(0, i), due[i]);
        }
        Check.due("of another man", x.fits(1, 0), 0);
        Check.due("of another man", x.fits(1, 1), -2);
        Check.due("of another man", x.fits(1, 4), -2);
        Check.due("what 5", x.fits(0, 5), -1);
        Check.due("what -1", x.fits(0, -1), -1);
        Check.due("man 2", x.fits(2, 0), -1);
        Check.due("man -1", x.fits(-1, 0), -1);
    }

    private static void outHasNone() {
        SackRace x = Check.told("lane a 2 3;man m 6 10 9;hold h 0 0 0;plan p h 1;law ache 3;");
        x.note(0, 0, 0, 18);
        Check.due("seven legs at least", x.fits(0, 3), 7);
        Check.due("40 at most", x.fits(0, 4), 40);
        Check.due("all winds", x.fits(0, 0), 60 * 34);
        SackRace y = Check.told("lane a 1 3;man m 6 10 9;hold h 0 0 0;plan p h 1;law time (wind > 9) * 20 + (legs > 5) + 1;");
        Check.due("60 at first", y.fits(0, 2) * 100 + y.fits(0, 4), 6040);
        y.note(0, 0, 0, 1);
        Check.due("less then", y.fits(0, 2) * 100 + y.fits(0, 4), 905);
        Check.due("from 1 on", y.fits(0, 1) * 100 + y.fits(0, 3), 101);
        y.strike(0);
        y.note(0, 0, 0, 22);
        Check.due("the others", y.fits(0, 1) * 100 + y.fits(0, 3), 1006);
        Check.due("the others", y.fits(0, 2) * 100 + y.fits(0, 4), 6040);
        SackRace z = Check.told("lane a 1 3;man m 6 10 9;hold h 0 0 0;plan p h 1;law time (wind = 9 and legs = 5) + 1;");
        Check.due("40 at first", z.fits(0, 4), 40);
        z.note(0, 0, 0, 2);
        Check.due("one alone", z.fits(0, 0), 1);
        Check.due("one alone", z.fits(0, 1) * 100 + z.fits(0, 3), 905);
        Check.due("one alone", z.fits(0, 2) * 100 + z.fits(0, 4), 905);
    }

    private static void asNow() {
        SackRace x = Check.told("lane a 2 3;man m 6 10 9;hold h 0 0 0;plan p h 1;law time heavy + damp;");
        x.note(0, 0, 0, 16);
        Check.due("sack 8", x.fits(0, 0), 2400);
        x.sack(9);
        Check.due("sack 9", x.fits(0, 0), 0);
        x.sack(7);
        x.rain(true);
        Check.due("sack 7, rain", x.fits(0, 0), 2400);
        x.rain(false);
        Check.due("sack 7", x.fits(0, 0), 0);
    }
}
