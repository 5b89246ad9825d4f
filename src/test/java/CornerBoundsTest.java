/** Each sentence about CORNERS, DOWN and RULES (==== 3., promises 35 to 40) that names a boundary case. */
public final class CornerBoundsTest {
    private static final String MEN = "man a 5 5 1;man b 6 6 2;man c 7 7 3;man d 8 8 4;man e 9 9 5;";

    public static void main(String[] args) {
        losses();
        within();
        namesOfCorners();
        rests();
        rest();
        least();
        bySlowWay();
        noCorner();
        down();
        downOfNone();
        downBits();
        downFar();
        downAll();
        errors();
        errorsAll();
        rule();
        Check.finish("CornerBoundsTest");
    }

    private static void losses() {
        Check.sentence("CORNER: jam (5 without, with an ERROR) for each other one inside, wide (6 without, with an ERROR)");
        for (String laws : new String[] {"", "law jam 1 / 0;law wide 1 / 0;", "law jam 5;", "law wide 6;", "law jam 5;law wide 6;"}) {
            SackRace x = Check.told("lane a 1 1 bend;" + MEN + laws);
            Check.due("two inside is a REST", x.rest(3, 0, 0), 3);
            Check.due("one alone is no REST", x.rests(3, 0), 1);
            Check.due("10 inside, 6 and 0 apart", x.corner(3, 0, 0), 6);
            Check.due("apart", x.corner(3, 0, 1), 1);
            Check.due("three REST by twos", x.rests(7, 0), 3);
            Check.due("five REST by twos", x.rests(31, 0), 10);
            Check.due("four outside", x.corner(31, 0, 0), 24);
        }
        for (String jam : new String[] {"", "law jam 5;", "law jam 1 / 0;"}) {
            Check.due("jam 5 is as much as 5", Check.told("lane a 1 1 bend;" + MEN + jam + "law wide 5;").rests(3, 0), 3);
            Check.due("jam 5 is more than 4", Check.told("lane a 1 1 bend;" + MEN + jam + "law wide 4;").rests(3, 0), 2);
            Check.due("jam 5 twice", Check.told("lane a 1 1 bend;" + MEN + jam + "law wide 11;").corner(3, 0, 0), 10);
        }
        for (String wide : new String[] {"", "law wide 6;", "law wide 1 / 0;"}) {
            Check.due("wide 6 is as much as 6", Check.told("lane a 1 1 bend;" + MEN + wide + "law jam 6;").rests(3, 0), 3);
            Check.due("wide 6 is less than 7", Check.told("lane a 1 1 bend;" + MEN + wide + "law jam 7;").rests(3, 0), 2);
            Check.due("wide 6 once", Check.told("lane a 1 1 bend;" + MEN + wide + "law jam 99;").corner(3, 0, 0), 6);
        }
        Check.sentence("CORNER: for each other one inside: none, if alone");
        SackRace y = Check.told("lane a 1 1 bend;" + MEN + "law jam 999;law wide 999;");
        Check.due("alone", y.corner(1, 0, 0), 0);
        Check.due("alone", y.corner(1, 0, 1), 1);
        Check.due("the fifth alone", y.corner(16, 0, 1), 16);
        Check.due("two", y.corner(3, 0, 0), 999);
    }

    private static int sumOfTwo(String laws) {
        return Check.told("lane a 1 1 bend;" + MEN + laws).corner(3, 0, 0);
    }

    private static void within() {
        Check.sentence("CORNER: E of jam (0 .. 999), E of wide (0 .. 999)");
        String[] e = {"0 - 9999", "0 - 1", "0", "1", "998", "999", "1000", "9999", "9999 * 9999"};
        int[] due = {0, 0, 0, 1, 998, 999, 999, 999, 999};
        for (int i = 0; i < e.length; i++) {
            // apart they lose wide once, inside jam twice
            Check.due("wide " + e[i], sumOfTwo("law jam 999;law wide " + e[i] + ";"), due[i]);
            Check.due("jam " + e[i], sumOfTwo("law wide 999;law jam " + e[i] + ";"), Math.min(999, 2 * due[i]));
            Check.due("jam " + e[i] + " of three", Check.told("lane a 1 1 bend;" + MEN + "law wide 999;law jam " + e[i] + ";")
                .rests(7, 0), due[i] <= 1 ? 1 : due[i] == 998 ? 3 : 6);
        }
        SackRace x = Check.told("lane a 1 1 bend;" + MEN + "law wide 999;law jam 998;");
        Check.due("998 is less than 999", x.rest(3, 0, 0), 3);
        SackRace y = Check.told("lane a 1 1 bend;" + MEN + "law wide 999;law jam 2000;");
        Check.due("999 is no less", y.rests(3, 0), 3);
        SackRace z = Check.told("lane a 1 1 bend;" + MEN + "law wide 998;law jam 999;");
        Check.due("999 is more than 998", z.rests(3, 0), 2);
    }

    private static void namesOfCorners() {
        Check.sentence("NAMES there: pace 0; slope, damp, curve of the STRETCH; heavy; weight, wind, legs of the MAN (as at first)");
        String lane = "lane a 2 3 bend;lane b 2 5 bend wet;man m 11 13 17;man n 19 23 29;hold h 0 0 0;plan p h 5;load 7;law ache 1;law jam 999;law wide ";
        String[] names = {"pace", "slope", "damp", "curve", "heavy", "weight", "wind", "legs"};
        int[][][] due = {{{0, 3, 0, 1, 7, 17, 11, 13}, {0, 3, 0, 1, 7, 29, 19, 23}}, {{0, 5, 1, 1, 7, 17, 11, 13}, {0, 5, 1, 1, 7, 29, 19, 23}}};
        for (int name = 0; name < names.length; name++) {
            SackRace x = Check.told(lane + names[name] + ";");
            x.race(0, 0);
            x.go(2);
            for (int i = 0; i < 2; i++) {
                Check.due(names[name] + " at " + i, x.corner(3, i, 0), Math.min(due[i][0][name], due[i][1][name]));
                SackRace jam = Check.told(lane.replace("law jam 999;law wide ", "law wide 999;law jam ") + names[name] + ";");
                Check.due(names[name] + " of jam at " + i, jam.corner(3, i, 0), due[i][0][name] + due[i][1][name]);
            }
        }
        SackRace y = Check.told(lane + "damp * 100 + heavy;");
        Check.due("dry", y.corner(3, 0, 0), 7);
        Check.due("WET", y.corner(3, 1, 0), 107);
        y.rain(true);
        y.sack(30);
        Check.due("in rain", y.corner(3, 0, 0), 130);
        Check.due("WET in rain", y.corner(3, 1, 0), 130);
        y.rain(false);
        y.sack(0);
        Check.due("dry again", y.corner(3, 0, 0), 0);
        Check.due("behind another call", y.best(0, 0) > 0 ? y.corner(3, 1, 0) : -5, 100);
    }

    private static void rests() {
        Check.sentence("A REST: none would lose less by doing otherwise alone");
        SackRace x = Check.told("lane a 1 1 bend;" + MEN + "law jam 6;law wide 6;");
        // one inside loses as much as outside: both are RESTS
        Check.due("no less is no reason", x.rests(3, 0), 3);
        Check.due("first", x.rest(3, 0, 0), 1);
        Check.due("second", x.rest(3, 0, 1), 2);
        Check.due("third", x.rest(3, 0, 2), 3);
        SackRace y = Check.told("lane a 1 1 bend;" + MEN + "law jam 7;law wide 6;");
        Check.due("less is one", y.rests(3, 0), 2);
        SackRace z = Check.told("lane a 1 1 bend;" + MEN + "law jam 0;law wide 0;");
        Check.due("all are RESTS", z.rests(31, 0), 32);
        for (int i = 0; i < 32; i++) {
            Check.due("in their order", z.rest(31, 0, i), i);
        }
        Check.due("no more", z.rest(31, 0, 32), -2);
        Check.due("one MAN", z.rests(8, 0), 2);
        Check.due("one MAN", z.rest(8, 0, 1), 8);
        SackRace w = Check.told("lane a 1 1 bend;" + MEN + "law jam 1;law wide 0;");
        Check.due("one inside at most", w.rests(31, 0), 6);
        Check.due("nobody inside is one too", w.rest(31, 0, 0), 0);
    }

    private static void rest() {
        Check.sentence("rest: The k-th; -2: there are no so many; NONE likewise");
        SackRace x = Check.told("lane a 1 1 bend;lane b 1 1;" + MEN);
        int n = x.rests(31, 0);
        for (int k = 0; k < n; k++) {
            Check.due("two inside", Integer.bitCount(x.rest(31, 0, k)), 2);
        }
        Check.due("the first", x.rest(31, 0, 0), 3);
        Check.due("the last", x.rest(31, 0, n - 1), 24);
        Check.due("behind the last", x.rest(31, 0, n), -2);
        Check.due("far behind", x.rest(31, 0, Integer.MAX_VALUE), -2);
        Check.due("below 0", x.rest(31, 0, -1), -1);
        Check.due("far below 0", x.rest(31, 0, Integer.MIN_VALUE), -1);
        Check.due("none of so many at no BEND", x.rest(31, 1, 99), -1);
    }

    private static void least() {
        Check.sentence("LEAST: the bits by which all lose the least in sum, of several the least");
        Check.due("all alike: nobody", Check.told("lane a 1 1 bend;" + MEN + "law jam 0;law wide 0;").corner(31, 0, 1), 0);
        Check.due("wide is free: nobody", Check.told("lane a 1 1 bend;" + MEN + "law wide 0;").corner(31, 0, 1), 0);
        Check.due("jam is free: all", Check.told("lane a 1 1 bend;" + MEN + "law jam 0;").corner(31, 0, 1), 31);
        Check.due("of several the least", Check.told("lane a 1 1 bend;" + MEN + "law jam 3;law wide 6;").corner(3, 0, 1), 1);
        Check.due("who loses most outside", Check.told("lane a 1 1 bend;" + MEN + "law jam 99;law wide weight;").corner(31, 0, 1), 16);
        Check.due("the sum", Check.told("lane a 1 1 bend;" + MEN + "law jam 99;law wide weight;").corner(31, 0, 0), 10);
    }

    private static void bySlowWay() {
        Check.sentence("CORNER of MEN: once more by the slow way");
        SackRace x = Check.told("lane a 1 1 bend;" + MEN + "law jam 7 - weight;law wide weight * 2 + 1;");
        for (int men = 1; men < 32; men++) {
            int found = 0;
            int best = -1;
            int leastSum = 0;
            for (int inside = 0; inside < 32; inside++) {
                if ((inside & ~men) != 0) {
                    continue;
                }
                int sum = 0;
                boolean rest = true;
                for (int man = 0; man < 5; man++) {
                    if ((men >> man & 1) == 1) {
                        int others = Integer.bitCount(inside & ~(1 << man));
                        int in = others * (7 - (man + 1));
                        int out = (man + 1) * 2 + 1;
                        boolean is = (inside >> man & 1) == 1;
                        sum += is ? in : out;
                        rest &= is ? in <= out : out <= in;
                    }
                }
                if (rest) {
                    Check.due("rest " + found + " of " + men, x.rest(men, 0, found), inside);
                    found++;
                }
                if (best < 0 || sum < leastSum) {
                    best = inside;
                    leastSum = sum;
                }
            }
            Check.due("rests of " + men, x.rests(men, 0), found);
            Check.due("least of " + men, x.corner(men, 0, 1), best);
            Check.due("sum of " + men, x.corner(men, 0, 0), leastSum);
        }
    }

    private static void noCorner() {
        Check.sentence("NONE: no such ones, no BEND (bits, one at least)");
        SackRace x = Check.told("lane a 1 1 bend;lane b 1 1;lane c 1 1 wet;" + MEN);
        for (int none : new int[] {0, 32, 33, 63, -1, Integer.MAX_VALUE, Integer.MIN_VALUE}) {
            Check.due("rests of men " + none, x.rests(none, 0), -1);
            Check.due("rest of men " + none, x.rest(none, 0, 0), -1);
            Check.due("corner of men " + none, x.corner(none, 0, 0), -1);
        }
        for (int none : new int[] {1, 2, 3, 6, -1, Integer.MAX_VALUE, Integer.MIN_VALUE}) {
            Check.due("rests at " + none, x.rests(1, none), -1);
            Check.due("rest at " + none, x.rest(1, none, 0), -1);
            Check.due("corner at " + none, x.corner(1, none, 0), -1);
            Check.due("corner at " + none, x.corner(1, none, 1), -1);
        }
        for (int none : new int[] {2, 3, -1, Integer.MAX_VALUE, Integer.MIN_VALUE}) {
            Check.due("what " + none, x.corner(1, 0, none), -1);
        }
        SackRace y = Check.told("lane a 1 1 bend;man m 1 1 1;");
        Check.due("one MAN", y.rests(1, 0), 1);
        Check.due("a second", y.rests(2, 0), -1);
        Check.due("both", y.rests(3, 0), -1);
        x.rain(true);
        Check.due("rain makes no BEND", x.rests(1, 1), -1);
        SackRace z = Check.told("lane a 1 1 bend;");
        Check.due("no MEN", z.rests(1, 0), -1);
        Check.due("no MEN", z.corner(0, 0, 0), -1);
    }

    private static void likely(SackRace x, int ofHundred, int asked, int say, long above, long below) {
        String call = "down(" + ofHundred + ", " + asked + ", " + say + ")";
        Check.due(call, x.down(ofHundred, asked, say, 0), above);
        Check.due(call, x.down(ofHundred, asked, say, 1), below);
    }

    private static void down() {
        Check.sentence("down: in least terms (of a hundred 0 .. 100)");
        SackRace x = Check.told("judge a 90 10;judge b 60 30;judge c 100 0;judge d 0 0;");
        for (int n = 1; n <= 100; n++) {
            int common = 100;
            while (n % common != 0 || 100 % common != 0) {
                common--;
            }
            likely(x, n, 0, 0, n / common, 100 / common);
        }
        likely(x, 0, 0, 0, 0, 1);
        for (int none : new int[] {-1, 101, Integer.MAX_VALUE, Integer.MIN_VALUE}) {
            likely(x, none, 0, 0, -1, -1);
        }
        for (int none : new int[] {2, 3, -1, Integer.MAX_VALUE, Integer.MIN_VALUE}) {
            Check.due("what " + none, x.down(50, 1, 1, none), -1);
        }
        Check.sentence("DOWN: who is asked and doesn't say so counts, too");
        likely(x, 50, 1, 0, 1, 10);
        likely(x, 50, 1, 1, 9, 10);
        likely(x, 10, 2, 0, 2 * 2, 2 * 2 + 9 * 7);
    }

    private static void downOfNone() {
        Check.sentence("down: (0 and 1, if they can't say so)");
        SackRace x = Check.told("judge a 90 10;judge b 60 30;judge c 100 0;judge d 0 0;");
        likely(x, 50, 8, 8, 0, 1);
        likely(x, 0, 8, 8, 0, 1);
        likely(x, 100, 8, 8, 0, 1);
        likely(x, 0, 4, 4, 0, 1);
        likely(x, 100, 4, 0, 0, 1);
        likely(x, 50, 12, 8, 0, 1);
        likely(x, 50, 15, 15, 0, 1);
        Check.sentence("DOWN: 0, and 1 below, if it wasn't for sure");
        likely(x, 0, 3, 3, 0, 1);
        likely(x, 50, 4, 0, 0, 1);
        Check.sentence("DOWN: 1 and 1, if it was for sure");
        likely(x, 100, 3, 3, 1, 1);
        likely(x, 1, 4, 4, 1, 1);
        likely(x, 100, 0, 0, 1, 1);
    }

    private static void downBits() {
        Check.sentence("down: NONE: no such ones, one who says so isn't asked");
        SackRace x = Check.told("judge a 90 10;judge b 60 30;");
        for (int asked = -1; asked <= 5; asked++) {
            for (int say = -1; say <= 5; say++) {
                boolean can = asked >= 0 && asked <= 3 && say >= 0 && (say & ~asked) == 0;
                Check.due("down(50, " + asked + ", " + say + ")", x.down(50, asked, say, 1) >= 0, can);
            }
        }
        likely(x, 50, Integer.MIN_VALUE, 0, -1, -1);
        likely(x, 50, Integer.MAX_VALUE, 0, -1, -1);
        likely(x, 50, 3, Integer.MIN_VALUE, -1, -1);
        likely(x, 50, 1, 2, -1, -1);
        likely(x, 50, 0, 1, -1, -1);
        Check.sentence("DOWN without JUDGES");
        SackRace y = new SackRace();
        likely(y, 40, 0, 0, 2, 5);
        likely(y, 40, 1, 0, -1, -1);
        likely(y, 40, 0, 1, -1, -1);
    }

    private static void downFar() {
        Check.sentence("DOWN: numbers beyond an int");
        SackRace x = Check.told("judge a 97 89;judge b 97 89;judge c 97 89;judge d 97 89;");
        likely(x, 97, 15, 15, 97L * 97 * 97 * 97 * 97, 97L * 97 * 97 * 97 * 97 + 3L * 89 * 89 * 89 * 89);
        SackRace y = Check.told("judge a 99 98;judge b 99 98;judge c 99 98;judge d 99 98;");
        likely(y, 53, 15, 15, 53L * 99 * 99 * 99 * 99, 53L * 99 * 99 * 99 * 99 + 47L * 98 * 98 * 98 * 98);
        SackRace z = Check.told("judge a 100 100;judge b 100 100;judge c 100 100;judge d 100 100;");
        likely(z, 100, 15, 15, 1, 1);
        likely(z, 50, 15, 15, 1, 2);
    }

    private static void downAll() {
        Check.sentence("DOWN: once more by the slow way");
        int[][] say = {{90, 10}, {60, 30}, {55, 45}, {100, 1}};
        SackRace x = Check.told("judge a 90 10;judge b 60 30;judge c 55 45;judge d 100 1;");
        for (int asked = 0; asked < 16; asked++) {
            for (int so = 0; so < 16; so++) {
                if ((so & ~asked) == 0) {
                    long was = 30;
                    long not = 70;
                    for (int i = 0; i < 4; i++) {
                        if ((asked >> i & 1) == 1) {
                            was *= (so >> i & 1) == 1 ? say[i][0] : 100 - say[i][0];
                            not *= (so >> i & 1) == 1 ? say[i][1] : 100 - say[i][1];
                        }
                    }
                    long common = java.math.BigInteger.valueOf(was).gcd(java.math.BigInteger.valueOf(was + not)).longValue();
                    likely(x, 30, asked, so, was == 0 ? 0 : was / common, was == 0 ? 1 : (was + not) / common);
                }
            }
        }
    }

    private static void errors() {
        Check.sentence("errors: RULE k (0 .. 5), NONE: no such ones");
        SackRace x = Check.told("judge a 90 10;");
        for (int none : new int[] {-1, 6, Integer.MAX_VALUE, Integer.MIN_VALUE}) {
            Check.due("k " + none, x.errors(none, 0), -1);
            Check.due("k " + none, x.errors(none, 1), -1);
        }
        for (int none : new int[] {2, -1, Integer.MAX_VALUE, Integer.MIN_VALUE}) {
            Check.due("what " + none, x.errors(0, none), -1);
        }
        int[] missed = {0, 10, 100, 100, 100, 100};
        int[] wrong = {100, 10, 0, 0, 0, 0};
        for (int k = 0; k <= 5; k++) {
            Check.due("MISSED by " + k, x.errors(k, 0), missed[k]);
            Check.due("WRONG by " + k, x.errors(k, 1), wrong[k]);
        }
        Check.sentence("errors: as fractions by 100 to the power of how many JUDGES there are");
        StringBuilder judges = new StringBuilder();
        int hundreds = 1;
        for (int n = 0; n <= 4; n++) {
            SackRace y = Check.told(judges.toString());
            Check.due("never MISSED by 0 of " + n, y.errors(0, 0), 0);
            Check.due("always WRONG by 0 of " + n, y.errors(0, 1), hundreds);
            Check.due("always MISSED by one more than " + n, y.errors(n + 1, 0), hundreds);
            Check.due("never WRONG by one more than " + n, y.errors(n + 1, 1), 0);
            judges.append("judge ").append((char) ('a' + n)).append(" 70 20;");
            hundreds *= 100;
        }
    }

    private static void errorsAll() {
        Check.sentence("RULE k: it counts as SET DOWN if at least k of all JUDGES say so");
        int[][] say = {{90, 10}, {60, 30}, {55, 45}, {100, 0}};
        SackRace x = Check.told("judge a 90 10;judge b 60 30;judge c 55 45;judge d 100 0;");
        for (int k = 0; k <= 5; k++) {
            long missed = 0;
            long wrong = 0;
            for (int so = 0; so < 16; so++) {
                long was = 1;
                long not = 1;
                for (int i = 0; i < 4; i++) {
                    was *= (so >> i & 1) == 1 ? say[i][0] : 100 - say[i][0];
                    not *= (so >> i & 1) == 1 ? say[i][1] : 100 - say[i][1];
                }
                missed += Integer.bitCount(so) < k ? was : 0;
                wrong += Integer.bitCount(so) >= k ? not : 0;
            }
            Check.due("MISSED by " + k, x.errors(k, 0), missed);
            Check.due("WRONG by " + k, x.errors(k, 1), wrong);
        }
    }

    private static void rule() {
        Check.sentence("rule: The least k by which MISSED and WRONG in sum are the least");
        String[] texts = {"", "judge a 90 10;", "judge a 50 50;", "judge a 10 90;", "judge a 100 0;judge b 100 0;",
            "judge a 100 99;judge b 100 99;judge c 100 99;judge d 100 99;", "judge a 1 0;judge b 1 0;judge c 1 0;judge d 1 0;",
            "judge a 80 20;judge b 80 20;judge c 80 20;", "judge a 0 100;judge b 0 100;", "judge a 90 50;judge b 90 50;judge c 90 50;",
            "judge a 100 50;judge b 100 50;judge c 100 50;judge d 100 50;"};
        for (String text : texts) {
            SackRace x = Check.told(text);
            int best = 0;
            for (int k = 1; k <= 5; k++) {
                if (x.errors(k, 0) + x.errors(k, 1) < x.errors(best, 0) + x.errors(best, 1)) {
                    best = k;
                }
            }
            Check.due("rule of " + text, x.rule(), best);
        }
        Check.due("none", new SackRace().rule(), 0);
        Check.due("1 and 2 are as good", Check.told(texts[4]).rule(), 1);
        Check.due("4 of 4", Check.told(texts[5]).rule(), 4);
        Check.due("1 of 4", Check.told(texts[6]).rule(), 1);
        Check.due("2 of 3", Check.told(texts[7]).rule(), 2);
        Check.due("3 of 3", Check.told(texts[9]).rule(), 3);
    }
}
