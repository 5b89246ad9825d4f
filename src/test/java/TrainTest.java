/** Promise 27: trained. */
public final class TrainTest {
    public static void main(String[] args) {
        ordinary();
        order();
        bounds();
        names();
        wrong();
        Check.finish("TrainTest");
    }

    private static void ordinary() {
        SackRace x = Check.told("man m 5 5 9;law gain heavy * 2 - legs / 3;law tire heavy;law harm heavy * heavy;");
        Check.due("two weeks", x.trained(0, 2, 9, 0), 4);
        Check.due("two weeks", x.trained(0, 2, 9, 1), 8);
        Check.due("two weeks", x.trained(0, 2, 9, 2), 10);
        Check.due("harm 0", x.trained(0, 6, 0, 0), 0);
        Check.due("harm 0", x.trained(0, 6, 0, 2), 0);
        Check.due("other harm", x.trained(0, 2, 1, 2), 4);
        Check.due("one week", x.trained(0, 1, 9, 0), 3);
        Check.due("three weeks", x.trained(0, 3, 9, 0), 4);
        SackRace y = Check.told("man m 5 5 9;man n 5 5 2;law gain weight;");
        Check.due("one man", y.trained(0, 1, 0, 0), 9);
        Check.due("another man", y.trained(1, 1, 0, 0), 2);
        Check.tell(x, "man m 5 5 9;law gain heavy;");
        Check.due("another text", x.trained(0, 2, 9, 0), 6);
    }

    private static void order() {
        SackRace x = Check.told("man m 5 5 9;law gain heavy = 2;law harm heavy;");
        Check.due("the least harm", x.trained(0, 1, 99, 2), 2);
        SackRace y = Check.told("man m 5 5 9;law gain (heavy = 1) * (wind = 0);");
        Check.due("the first by weeks", y.trained(0, 3, 99, 2), 1 << 4);
        SackRace z = Check.told("man m 5 5 9;law gain heavy > 1;");
        Check.due("the least load first", z.trained(0, 3, 99, 2), 2 + 8 + 32);
    }

    private static void bounds() {
        Check.due("no laws", Check.told("man m 5 5 9;").trained(0, 6, 0, 0), 0);
        Check.due("gain at most 20", Check.told("man m 5 5 9;law gain 99;").trained(0, 1, 0, 0), 20);
        Check.due("form at most 60", Check.told("man m 5 5 9;law gain 99;").trained(0, 6, 0, 0), 60);
        Check.due("form 0 at least", Check.told("man m 5 5 9;law gain (pace = 2) * 5 - 20;").trained(0, 2, 0, 0), 0);
        Check.due("tire at most 20", Check.told("man m 5 5 9;law tire 99;").trained(0, 2, 0, 0), -40);
        Check.due("tired at most 60", Check.told("man m 5 5 9;law tire 20;").trained(0, 6, 0, 0), -60);
        Check.due("tired 0 at least", Check.told("man m 5 5 9;law tire 0 - 20;").trained(0, 6, 0, 0), 0);
        Check.due("an error", Check.told("man m 5 5 9;law gain 1 / 0;law tire 1 / 0;law harm 1 / 0;").trained(0, 6, 0, 0), 0);
        Check.due("harm at most 99", Check.told("man m 5 5 9;law harm 999;").trained(0, 6, 594, 1), 594);
        Check.due("harm at most 99", Check.told("man m 5 5 9;law harm 999;").trained(0, 6, 593, 0), -99);
        Check.due("harm 0 at least", Check.told("man m 5 5 9;law harm 0 - 9;").trained(0, 6, 0, 1), 0);
    }

    private static void names() {
        SackRace x = Check.told("man m 7 8 9;load 5;law gain heavy = 3 and weight = 9 and slope + damp + curve = 0"
            + " and wind = pace and legs = pace * 2;law tire 2;");
        x.rain(true);
        Check.due("all as they should be", x.trained(0, 6, 0, 0), 6 - 12);
        Check.due("loads", x.trained(0, 6, 0, 2), 4095);
    }

    private static void wrong() {
        SackRace x = Check.told("man m 5 5 9;law harm 5;");
        Check.due("there is none", x.trained(0, 1, 4, 0), -99);
        Check.due("there is none", x.trained(0, 1, 4, 1), -1);
        Check.due("there is none", x.trained(0, 1, 4, 2), -1);
        Check.due("there is one", x.trained(0, 1, 5, 1), 5);
        Check.due("n 0", x.trained(0, 0, 5, 0), -999);
        Check.due("n 7", x.trained(0, 7, 5, 0), -999);
        Check.due("harm -1", x.trained(0, 1, -1, 0), -999);
        Check.due("harm 1000", x.trained(0, 1, 1000, 0), -999);
        Check.due("harm 999", x.trained(0, 1, 999, 1), 5);
        Check.due("what 3", x.trained(0, 1, 5, 3), -999);
        Check.due("what -1", x.trained(0, 1, 5, -1), -999);
        Check.due("man 1", x.trained(1, 1, 5, 0), -999);
        Check.due("man -1", x.trained(-1, 1, 5, 0), -999);
    }
}
