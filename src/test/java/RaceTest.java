/** Promises 11 to 18, 41 and 42: race, go, now, paced, shift, undo, sack, rain, keep, back. */
public final class RaceTest {
    private static final String LANE = "lane a 2 1;lane b 1 3 bend;lane c 2 0 wet;man m 20 10 9;man n 20 3 20;"
        + "hold h 0 0 5;hold i 2 90 7;hold j 9 99 99;plan p h 4 6 2;plan q i 5;law ache slope;";

    public static void main(String[] args) {
        race();
        slips();
        out();
        paced();
        shift();
        undo();
        twentyToUndo();
        sackAndRain();
        image();
        noStretches();
        Check.finish("RaceTest");
    }

    private static void nowIs(SackRace x, int... due) {
        for (int i = 0; i < due.length; i++) {
            Check.due("now(" + i + ")", x.now(i), due[i]);
        }
    }

    private static void race() {
        SackRace x = Check.told(LANE + "seed 3;");
        Check.due("go without", x.go(0), -1);
        Check.due("now without", x.now(5), -1);
        Check.due("race(2, 0)", x.race(2, 0), false);
        Check.due("race(0, 2)", x.race(0, 2), false);
        Check.due("race(-1, 0)", x.race(-1, 0), false);
        Check.due("race(0, -1)", x.race(0, -1), false);
        Check.due("no race yet", x.now(0), -1);
        Check.due("race(0, 0)", x.race(0, 0), true);
        nowIs(x, 0, 0, 20, 10, 0, 0, 4, 0);
        Check.due("now(8)", x.now(8), -1);
        Check.due("now(-1)", x.now(-1), -1);
        Check.due("go(0)", x.go(0), 0);
        Check.due("go(-1)", x.go(-1), -1);
        Check.due("go(121)", x.go(121), -1);
        Check.due("go(2)", x.go(2), 2);
        nowIs(x, 2, 12, 18, 8, 0, 0, 6, 0);
        Check.due("go(120)", x.go(120), 3);
        Check.due("steps", x.now(0), 5);
        Check.due("up", x.now(5), 1);
        Check.due("none is next", x.now(6), 0);
        Check.due("its hold", x.now(7), 0);
        Check.due("go(1)", x.go(1), 0);
        Check.due("another one that is none", x.race(7, 7), false);
        Check.due("stays", x.now(0), 5);
        Check.due("another one", x.race(0, 1), true);
        nowIs(x, 0, 0, 20, 10, 0, 0, 5, 1);
    }

    /** The numbers once more: what slips by them, and that they go on from one RACE to the next. */
    private static void slips() {
        SackRace x = Check.told("lane a 20 0;lane b 20 0 wet;man m 60 10 9;hold h 0 40 3;plan p h 4;seed 12345;");
        long last = 12345;
        for (int race = 0; race < 2; race++) {
            x.race(0, 0);
            int slips = 0;
            for (int i = 0; i < 40; i++) {
                last = (last * 1103515245L + 12345L) % (1L << 31);
                slips += last / 65536 % 100 < (i < 20 ? 40 : 50) ? 1 : 0;
                x.go(1);
                Check.due("slips by " + i, x.now(4), slips);
                Check.due("tenths by " + i, x.now(1), 6 * (i + 1) + 3 * slips);
            }
        }
        x.rain(true);
        x.race(0, 0);
        int slips = 0;
        for (int i = 0; i < 40; i++) {
            last = (last * 1103515245L + 12345L) % (1L << 31);
            slips += last / 65536 % 100 < 50 ? 1 : 0;
        }
        x.go(40);
        Check.due("slips in rain", x.now(4), slips);
        Check.due("a run doesn't slip", x.run(0, 0, 0), 240);
    }

    private static void out() {
        SackRace x = Check.told(LANE);
        x.race(1, 0);
        Check.due("go(120)", x.go(120), 3);
        Check.due("legs", x.now(3), 0);
        Check.due("out", x.now(5), 2);
        Check.due("none is next", x.now(6), 0);
        Check.due("go(5)", x.go(5), 0);
        Check.due("paced", x.paced(3), false);
        Check.due("shift", x.shift(1), -1);
        Check.due("undo", x.undo(), 2);
        Check.due("going", x.now(5), 0);
        SackRace y = Check.told("lane a 2 1;man m 9 2 1;hold h 0 0 0;plan p h 1;law ache 1;");
        y.race(0, 0);
        y.go(2);
        Check.due("out at the last step", y.now(5), 2);
    }

    private static void paced() {
        SackRace x = Check.told(LANE);
        Check.due("paced without", x.paced(3), false);
        x.race(0, 0);
        Check.due("paced(10)", x.paced(10), false);
        Check.due("paced(-1)", x.paced(-1), false);
        Check.due("paced(9)", x.paced(9), true);
        Check.due("next", x.now(6), 9);
        x.go(2);
        Check.due("tenths", x.now(1), 2);
        Check.due("in all stretches", x.now(6), 9);
        x.go(1);
        nowIs(x, 3, 3, 0, 5, 0, 0, 1, 0);
        x.go(1);
        Check.due("wind again", x.now(6), 9);
        Check.due("paced(0)", x.paced(0), true);
        Check.due("the plan's", x.now(6), 2);
        x.go(1);
        Check.due("up", x.paced(0), false);
    }

    private static void shift() {
        SackRace x = Check.told(LANE);
        Check.due("shift without", x.shift(1), -1);
        x.race(0, 0);
        Check.due("it is that", x.shift(0), -1);
        Check.due("shift(3)", x.shift(3), -1);
        Check.due("shift(-1)", x.shift(-1), -1);
        Check.due("shift(2)", x.shift(2), 99);
        nowIs(x, 0, 99, 20, 10, 0, 0, 4, 2);
        x.go(1);
        Check.due("what it costs", x.now(2), 10);
        Check.due("back to the first", x.shift(0), 5);
        x.go(120);
        Check.due("up", x.shift(1), -1);
    }

    private static void undo() {
        SackRace x = Check.told(LANE + "seed 5;");
        Check.due("nothing", x.undo(), -1);
        x.race(0, 1);
        Check.due("nothing yet", x.undo(), -1);
        x.go(2);
        int tenths = x.now(1);
        int slips = x.now(4);
        x.paced(9);
        x.go(1);
        int behind = x.now(1);
        x.shift(0);
        x.paced(1);
        Check.due("undo", x.undo(), 2);
        nowIs(x, 2, tenths);
        Check.due("slips", x.now(4), slips);
        Check.due("the hold that was", x.now(7), 1);
        Check.due("the pace changed ahead of it stays", x.now(6), 9);
        x.go(1);
        Check.due("the same number again", x.now(1), behind);
        Check.due("undo", x.undo(), 2);
        Check.due("undo", x.undo(), 1);
        Check.due("the pace ahead", x.now(6), 5);
        Check.due("undo", x.undo(), 0);
        Check.due("undo", x.undo(), -1);
        nowIs(x, 0, 0, 20, 10, 0, 0, 5, 1);
        x.go(3);
        x.race(0, 0);
        Check.due("another race", x.undo(), -1);
    }

    private static void twentyToUndo() {
        SackRace x = Check.told("lane a 20 0;lane b 20 0;man m 60 10 9;hold h 0 50 3;plan p h 4 5;");
        x.race(0, 0);
        int[] tenths = new int[31];
        for (int i = 0; i <= 30; i++) {
            tenths[i] = x.now(1);
            x.go(i < 30 ? 1 : 0);
        }
        Check.due("twenty", x.count(8), 20);
        for (int i = 29; i >= 10; i--) {
            Check.due("undo", x.undo(), i - 10);
            Check.due("steps", x.now(0), i);
            Check.due("tenths", x.now(1), tenths[i]);
        }
        Check.due("no more", x.undo(), -1);
        Check.due("steps", x.now(0), 10);
        x.go(120);
        Check.due("thirty went", x.count(8), 20);
        x.undo();
        Check.due("steps", x.now(0), 39);
    }

    private static void sackAndRain() {
        SackRace x = Check.told(LANE + "law time heavy + damp * 50;");
        Check.due("sack(-1)", x.sack(-1), false);
        Check.due("sack(31)", x.sack(31), false);
        Check.due("sack", x.count(9), 8);
        x.race(0, 0);
        x.go(1);
        Check.due("sack(30)", x.sack(30), true);
        x.go(1);
        Check.due("from now on", x.now(1), 38);
        Check.due("sack(0)", x.sack(0), true);
        Check.due("rain", x.rain(true), 3);
        x.go(1);
        Check.due("in rain", x.now(1), 88);
        Check.due("no rain", x.rain(false), 1);
        Check.due("run", x.run(0, 0, 0), 1 + 1 + 1 + 50 + 50);
        x.sack(7);
        Check.due("run", x.run(0, 0, 0), 7 + 7 + 7 + 57 + 57);
        Check.due("new", new SackRace().rain(true), 0);
    }

    private static void image() {
        SackRace x = Check.told(LANE + "seed 9;");
        Check.due("back without", x.back(), -1);
        Check.due("keep without race", x.keep(), -2);
        x.race(0, 1);
        x.go(1);
        Check.due("back", x.back(), -2);
        Check.due("no race", x.now(0), -1);
        Check.due("nothing to undo", x.undo(), -1);
        x.race(0, 1);
        x.go(1);
        x.paced(7);
        x.shift(0);
        x.sack(3);
        x.rain(true);
        int tenths = x.now(1);
        Check.due("keep", x.keep(), 1);
        Check.due("what can be undone stays", x.count(8), 1);
        x.shift(2);
        x.go(3);
        int later = x.now(1);
        x.paced(1);
        x.sack(9);
        x.rain(false);
        for (int i = 0; i < 2; i++) {
            Check.due("back", x.back(), 1);
            Check.due("tenths", x.now(1), tenths);
            Check.due("pace", x.now(6), 7);
            Check.due("hold", x.now(7), 0);
            Check.due("sack", x.count(9), 3);
            Check.due("rain", x.look(0, 3), 1);
            Check.due("nothing to undo", x.undo(), -1);
            x.shift(2);
            x.go(3);
            Check.due("the same numbers", x.now(1), later);
        }
        Check.due("in place of it", x.keep(), 4);
        x.race(1, 0);
        Check.due("back", x.back(), 4);
        Check.due("the race that was", x.now(1), later);
    }

    private static void noStretches() {
        SackRace x = Check.told("man m 6 10 9;hold h 0 0 5;hold i 0 0 5;plan p h 4;");
        Check.due("race", x.race(0, 0), true);
        nowIs(x, 0, 0, 6, 10, 0, 1, 0, 0);
        Check.due("go", x.go(5), 0);
        Check.due("paced", x.paced(1), false);
        Check.due("shift", x.shift(1), -1);
        Check.due("keep", x.keep(), 0);
    }
}
