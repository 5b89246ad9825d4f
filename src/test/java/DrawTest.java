/** Promises 32 and 33: wins, beats. */
public final class DrawTest {
    private static final String MEN = "lane a 3 0;lane b 4 2 wet;man m 9 9 9;man n 20 9 9;man o 20 1 9;hold h 0 30 4;plan p h 4;plan q h 8 5;"
        + "law ache (weight > 99) + (legs = 1);";

    private static long last;

    public static void main(String[] args) {
        ordinary();
        drawn();
        wrong();
        Check.finish("DrawTest");
    }

    private static void ordinary() {
        SackRace x = Check.told(MEN);
        Check.due("alone", x.wins(1, 1, 0, 0), 10);
        Check.due("out, alone", x.wins(1, 4, 0, 2), 0);
        Check.due("out, among others", x.wins(1, 7, 0, 2), 0);
        Check.due("one of two", x.wins(1, 3, 1, 0) + x.wins(1, 3, 1, 1), 10);
        Check.due("out", x.beats(1, 2, 0, 99999), 0);
        Check.due("up", x.beats(1, 0, 0, 99999), 10);
        Check.due("not in no time", x.beats(1, 0, 0, 0), 0);
        SackRace y = Check.told("lane a 3 0;man m 9 9 9;man n 9 9 9;hold h 0 0 4;plan p h 4;");
        Check.due("the first of several", y.wins(1, 3, 0, 0), 10);
        Check.due("the first of several", y.wins(1, 3, 0, 1), 0);
        Check.due("at most", y.beats(1, 0, 0, 18), 10);
        Check.due("at most", y.beats(1, 0, 0, 17), 0);
        SackRace six = Check.told("lane a 20 0;lane b 20 0;lane c 20 0;lane d 20 0;lane e 20 0;lane f 20 0;man m 9 9 9;"
            + "hold h 0 0 0;plan p h 4;");
        Check.due("all 120 steps", six.beats(1, 0, 0, 720), 10);
        Check.due("all 120 steps", six.beats(1, 0, 0, 719), 0);
        Check.due("all 120 steps", six.run(0, 0, 3), 120);
        six.race(0, 0);
        Check.due("all 120 steps", six.go(120), 120);
        Check.due("up", six.now(5), 1);
        SackRace z = Check.told("man m 9 9 9;hold h 0 0 4;plan p h 4;");
        Check.due("no stretches", z.wins(1, 1, 0, 0), 10);
        Check.due("no stretches", z.beats(1, 0, 0, 0), 10);
    }

    /** Slips of so many STEPS, by the numbers that go on; the first three are on dry ground. */
    private static int slipped(int steps) {
        int slips = 0;
        for (int i = 0; i < steps; i++) {
            last = (last * 1103515245L + 12345L) % (1L << 31);
            slips += last / 65536 % 100 < (i < 3 ? 30 : 40) ? 1 : 0;
        }
        return slips;
    }

    private static void drawn() {
        SackRace x = Check.told(MEN);
        x.race(0, 0);
        x.go(1);
        int[] seeds = {0, 1, 77, 99999, 2147483647};
        for (int seed : seeds) {
            last = seed;
            int wins = 0;
            for (int i = 0; i < 10; i++) {
                int first = x.run(0, 1, 0) + 4 * slipped(7);
                int second = x.run(1, 1, 0) + 4 * slipped(7);
                slipped(1);
                wins += first <= second ? 1 : 0;
            }
            Check.due("wins from " + seed, x.wins(seed, 7, 1, 0), wins);
            Check.due("wins from " + seed, x.wins(seed, 7, 1, 1), 10 - wins);
            last = seed;
            int beats = 0;
            for (int i = 0; i < 10; i++) {
                beats += 4 * slipped(7) <= 8 ? 1 : 0;
            }
            Check.due("beats from " + seed, x.beats(seed, 1, 0, x.run(1, 0, 0) + 8), beats);
        }
        int tenths = x.now(1);
        x.undo();
        x.go(1);
        Check.due("the race's numbers stay", x.now(1), tenths);
    }

    private static void wrong() {
        SackRace x = Check.told(MEN);
        Check.due("seed -1", x.wins(-1, 1, 0, 0), -1);
        Check.due("no men", x.wins(0, 0, 0, 0), -1);
        Check.due("men 8", x.wins(0, 8, 0, 0), -1);
        Check.due("men 9", x.wins(0, 9, 0, 0), -1);
        Check.due("men -1", x.wins(0, -1, 0, 0), -1);
        Check.due("he isn't one", x.wins(0, 2, 0, 0), -1);
        Check.due("man 3", x.wins(0, 7, 0, 3), -1);
        Check.due("man 32", x.wins(0, 7, 0, 32), -1);
        Check.due("man -1", x.wins(0, 7, 0, -1), -1);
        Check.due("plan 2", x.wins(0, 7, 2, 0), -1);
        Check.due("seed -1", x.beats(-1, 0, 0, 0), -1);
        Check.due("man 3", x.beats(0, 3, 0, 0), -1);
        Check.due("plan 2", x.beats(0, 0, 2, 0), -1);
        Check.due("plan -1", x.beats(0, 0, -1, 0), -1);
        Check.due("tenths -1", x.beats(0, 0, 0, -1), -1);
        Check.due("tenths 100000", x.beats(0, 0, 0, 100000), -1);
    }
}
