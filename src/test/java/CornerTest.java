/** Promises 35 to 37: rests, rest, corner. */
public final class CornerTest {
    public static void main(String[] args) {
        withoutLaws();
        withLaws();
        bounds();
        wrong();
        Check.finish("CornerTest");
    }

    private static final String MEN = "man m 5 5 5;man n 6 6 6;man o 7 7 7;";

    /** 5 for each other one inside, 6 outside: two inside is a rest, three is not. */
    private static void withoutLaws() {
        SackRace x = Check.told("lane a 1 1 bend;lane b 1 1;" + MEN);
        Check.due("rests", x.rests(7, 0), 3);
        Check.due("first", x.rest(7, 0, 0), 3);
        Check.due("second", x.rest(7, 0, 1), 5);
        Check.due("third", x.rest(7, 0, 2), 6);
        Check.due("no fourth", x.rest(7, 0, 3), -2);
        Check.due("not below 0", x.rest(7, 0, -1), -1);
        Check.due("least", x.corner(7, 0, 0), 12);
        Check.due("least", x.corner(7, 0, 1), 1);
        Check.due("two of them", x.rest(6, 0, 0), 6);
        Check.due("two of them, least", x.corner(6, 0, 1), 2);
        Check.due("two of them, least", x.corner(6, 0, 0), 6);
        Check.due("one", x.rests(4, 0), 1);
        Check.due("one", x.rest(4, 0, 0), 4);
        Check.due("one", x.corner(4, 0, 0), 0);
        Check.due("one", x.corner(4, 0, 1), 4);
    }

    private static void withLaws() {
        SackRace x = Check.told("lane a 1 2 bend;lane b 1 3 bend wet;" + MEN
            + "load 4;law jam pace + slope * 10 + heavy + damp * 100;law wide (weight + wind + legs) * curve;");
        // jam 24 (b: 134), wide 15, 18, 21: alone inside is all that pays
        Check.due("rests", x.rests(7, 0), 3);
        Check.due("rest", x.rest(7, 0, 2), 4);
        Check.due("least", x.corner(7, 0, 1), 4);
        Check.due("least", x.corner(7, 0, 0), 33);
        x.sack(0);
        // jam 20 is less than the third one's 21: he won't stay outside of one
        Check.due("rests", x.rests(7, 0), 1);
        Check.due("rest", x.rest(7, 0, 0), 4);
        Check.due("least", x.corner(7, 0, 0), 33);
        x.rain(true);
        Check.due("in rain", x.rests(7, 0), 3);
        Check.due("on wet", x.corner(7, 1, 0), 33);
        SackRace y = Check.told("lane a 1 0 bend;" + MEN + "law jam 0;law wide 0;");
        Check.due("all are rests", y.rests(7, 0), 8);
        for (int i = 0; i < 8; i++) {
            Check.due("in their order", y.rest(7, 0, i), i);
        }
        Check.due("of several the least", y.corner(7, 0, 1), 0);
        Check.due("bits of two", y.rest(5, 0, 3), 5);
        SackRace z = Check.told("lane a 1 0 bend;" + MEN + "man p 1 1 1;man q 1 1 1;law jam 0;");
        Check.due("five", z.rests(31, 0), 1);
        Check.due("five", z.corner(31, 0, 1), 31);
    }

    private static void bounds() {
        String lane = "lane a 1 1 bend;man m 5 5 5;man n 6 6 6;";
        Check.due("999 at most", Check.told(lane + "law jam 2000;law wide 1500;").corner(3, 0, 0), 999);
        Check.due("0 at least", Check.told(lane + "law jam 0 - 5;").corner(3, 0, 0), 0);
        Check.due("0 at least", Check.told(lane + "law wide 0 - 5;").corner(3, 0, 0), 0);
        Check.due("0 at least", Check.told(lane + "law wide 0 - 5;").corner(3, 0, 1), 0);
        Check.due("errors", Check.told(lane + "law jam 1 / 0;law wide 1 / 0;").corner(3, 0, 0), 6);
    }

    private static void wrong() {
        SackRace x = Check.told("lane a 1 1 bend;lane b 1 1;" + MEN);
        int[][] no = {{0, 0}, {8, 0}, {-1, 0}, {15, 0}, {7, 1}, {7, 2}, {7, -1}};
        for (int[] n : no) {
            Check.due("rests(" + n[0] + ", " + n[1] + ")", x.rests(n[0], n[1]), -1);
            Check.due("rest(" + n[0] + ", " + n[1] + ", 0)", x.rest(n[0], n[1], 0), -1);
            Check.due("corner(" + n[0] + ", " + n[1] + ", 0)", x.corner(n[0], n[1], 0), -1);
        }
        Check.due("what 2", x.corner(7, 0, 2), -1);
        Check.due("what -1", x.corner(7, 0, -1), -1);
        Check.due("k far away", x.rest(7, 0, Integer.MAX_VALUE), -2);
    }
}
