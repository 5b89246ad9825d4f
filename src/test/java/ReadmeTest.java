/** What README.md shows: its calls with their answers, and its text of every kind of line. */
public final class ReadmeTest {
    public static void main(String[] args) {
        calls();
        lines();
        Check.finish("ReadmeTest");
    }

    private static void calls() {
        SackRace x = new SackRace();
        x.feed(0x6c616e65, 0x20612032, 0x20303b6d, 0x616e206d, 0x20362031);
        x.feed(0x3020393b, 0x686f6c64, 0x206e2030, 0x20302035, 0x3b706c61);
        Check.due("feed", x.feed(0x6e207020, 0x6e20343b, 0x20202020, 0x20202020, 0x20202020), 60);
        Check.due("text(48)", x.text(48), 4);
        Check.due("run(0, 0, 0)", x.run(0, 0, 0), 12);
        Check.due("best(0, 0)", x.best(0, 0), 2);
        Check.due("race(0, 0)", x.race(0, 0), true);
        Check.due("go(1)", x.go(1), 1);
        Check.due("now(1)", x.now(1), 6);
    }

    private static void lines() {
        Check.faultless("lane a 3 2 bend wet;\nman m 20 10 9;\nhold n 1 20 5;\nplan p n 4 6 2;\njudge j 90 10;\n"
            + "load 8; seed 17;\nlaw time 12 - pace + heavy / 4;\n", 8);
    }
}
