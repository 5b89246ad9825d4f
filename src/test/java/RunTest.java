/** Promises 6 to 10 and 34: look, pace, law, run, split, led. */
public final class RunTest {
    private static final String LANE = "lane a 2 1;lane b 1 3 bend;lane c 2 0 wet;man m 6 10 9;man n 3 4 20;"
        + "hold h 0 0 5;hold i 2 0 1;plan p h 4 6 2;plan q i 9;plan r h 1 2 3 4 5 6;";

    public static void main(String[] args) {
        look();
        pace();
        law();
        values();
        run();
        bounds();
        noStretches();
        Check.finish("RunTest");
    }

    private static void look() {
        SackRace x = Check.told(LANE);
        int[][] due = {{2, 1, 0, 0}, {1, 3, 1, 0}, {2, 0, 0, 1}};
        for (int i = 0; i < 3; i++) {
            for (int k = 0; k < 4; k++) {
                Check.due("look(" + i + ", " + k + ")", x.look(i, k), due[i][k]);
            }
        }
        x.rain(true);
        Check.due("wet by rain", x.look(0, 3), 1);
        Check.due("no such stretch", Check.lookThrows(x, 3, 0), 1);
        Check.due("no such stretch", Check.lookThrows(x, -1, 0), 1);
        Check.due("no such stretch, no such what", Check.lookThrows(x, 3, 4), 1);
        Check.due("no such what", Check.lookThrows(x, 2, 4), 2);
        Check.due("no such what", Check.lookThrows(x, 2, -1), 2);
        Check.due("least", Check.lookThrows(x, Integer.MIN_VALUE, Integer.MIN_VALUE), 1);
    }

    private static void pace() {
        SackRace x = Check.told(LANE);
        Check.due("pace(0, 1)", x.pace(0, 1), 6);
        Check.due("pace(1, 2)", x.pace(1, 2), 9);
        Check.due("pace(2, 2)", x.pace(2, 2), 3);
        Check.due("pace(1, -1)", x.pace(1, -1), 1);
        Check.due("pace(2, -1)", x.pace(2, -1), 0);
        Check.due("pace(0, -2)", x.pace(0, -2), -1);
        Check.due("pace(0, 3)", x.pace(0, 3), -1);
        Check.due("pace(3, 0)", x.pace(3, 0), -1);
        Check.due("pace(3, -1)", x.pace(3, -1), -1);
        Check.due("pace(-1, 0)", x.pace(-1, 0), -1);
    }

    private static void law() {
        SackRace x = Check.told(LANE + "load 12;law time pace * 100 + slope * 10 + heavy - weight;"
            + "law cost 1000 - wind * legs + damp * 5 + curve * 7;law gain 5;");
        Check.due("time", x.law(0, 0, 1, 9), 933);
        Check.due("time", x.law(0, 1, 2, 1), 92);
        Check.due("cost", x.law(1, 1, 1, 1), 995);
        Check.due("cost on wet", x.law(1, 1, 2, 1), 993);
        Check.due("no such law", x.law(2, 0, 0, 1), Long.MIN_VALUE);
        x.rain(true);
        x.sack(0);
        Check.due("cost in rain", x.law(1, 1, 1, 1), 1000);
        Check.due("time without sack", x.law(0, 0, 1, 9), 921);
        Check.due("what 3", x.law(3, 0, 0, 1), Long.MIN_VALUE);
        Check.due("what -1", x.law(-1, 0, 0, 1), Long.MIN_VALUE);
        Check.due("man 2", x.law(0, 2, 0, 1), Long.MIN_VALUE);
        Check.due("stretch 3", x.law(0, 0, 3, 1), Long.MIN_VALUE);
        Check.due("pace 0", x.law(0, 0, 0, 0), Long.MIN_VALUE);
        Check.due("pace 10", x.law(0, 0, 0, 10), Long.MIN_VALUE);
    }

    private static void value(String e, long due) {
        SackRace x = Check.told("lane a 1 2;man m 3 4 5;law time " + e + ";");
        Check.due(e, x.law(0, 0, 0, 7), due);
    }

    private static void values() {
        long error = Long.MIN_VALUE;
        value("1 + 2 * 3", 7);
        value("10 - 2 - 3", 5);
        value("100 / 5 / 2", 10);
        value("100 / 5 * 2", 40);
        value("2 * (3 + 4)", 14);
        value("(0 - 7) / 2", -3);
        value("7 / (0 - 2)", -3);
        value("1 / 0", error);
        value("0 and 1 / 0", error);
        value("1 or 1 / 0", error);
        value("not (1 / 0)", error);
        value("5 and 3", 1);
        value("0 or 9", 1);
        value("0 or 0 and 1", 0);
        value("1 or 0 and 0", 1);
        value("not 5", 0);
        value("not 0", 1);
        value("not not 5", 1);
        value("not 1 < 2", 0);
        value("not 0 and 0", 0);
        value("not 0 or 1", 1);
        value("1 + 1 = 2", 1);
        value("1 <> 1", 0);
        value("2 <= 2", 1);
        value("3 >= 4", 0);
        value("4 >= 4", 1);
        value("4 > 4", 0);
        value("4 < 4", 0);
        value("4 <= 3", 0);
        value("3 <> 4", 1);
        value("(0 or 1) + 1", 2);
        value("2 * (0 or 1 and 1)", 2);
        value("(not 1) - 5", -5);
        value("3 - (1 and 0 or 0 = 0) * 2", 1);
        value("((1 + 2) * (3 + 4) - (5 - 6)) * 2", 44);
        value("1 < 2 or 1 / 1 - 1", 1);
        value("2 > 1", 1);
        value("2<1", 0);
        value("1=1 and 2=2", 1);
        value("(1 < 2) < 3", 1);
        value("pace * 1000 + slope * 100 + wind * 10 + legs", 7234);
        value("9999 * 9999 * 9999", 999700029999L);
        value("9999 * 9999 * 9999 * 0", 0);
        value("1000 * 1000 * 1000 * 1000", 1000000000000L);
        value("1000 * 1000 * 1000 * 1000 + 1", error);
        value("0 - 1000 * 1000 * 1000 * 1000", -1000000000000L);
        value("0 - 1000 * 1000 * 1000 * 1000 - 1", error);
        value("1000 * 1000 * 1000 * 1000 * (0 - 1)", -1000000000000L);
        value("1000 * 1000 * 1000 * 1001", error);
        value("(1000 * 1000 * 1000 * 1000) * (1000 * 1000 * 1000 * 1000)", error);
        value("(1000 * 1000 * 1000 * 1000) * (1000 * 1000 * 1000 * 1000) > 0", error);
        value("4096 * 4096 * 4096 * (4096 * 4096 * 4096)", error);
        value("4096 * 4096 * 4096 * (0 - 4096 * 4096 * 4096)", error);
        value("(0 - 4096) * 4096 * 4096 * 4096 * 4096 * 0", error);
    }

    private static void run() {
        SackRace x = Check.told(LANE + "law ache slope + (pace > 8) * 2;");
        // the fourth STEP is FADED and gives 3 wind, the fifth gives 2
        Check.due("tenths", x.run(0, 0, 0), 12 + 4 + 9 + 8);
        Check.due("wind", x.run(0, 0, 1), 5);
        Check.due("legs", x.run(0, 0, 2), 5);
        Check.due("steps", x.run(0, 0, 3), 5);
        Check.due("split 0", x.split(0, 0, 0), 12);
        Check.due("split 1", x.split(0, 0, 1), 16);
        Check.due("split 2", x.split(0, 0, 2), 33);
        Check.due("led 0 steps", x.led(0, 0, 0, 0), 0);
        Check.due("led 0 steps, wind", x.led(0, 0, 0, 1), 6);
        Check.due("led 0 steps, legs", x.led(0, 0, 0, 2), 10);
        Check.due("led 3 steps", x.led(0, 0, 3, 0), 16);
        Check.due("led 3 steps, wind", x.led(0, 0, 3, 1), 0);
        Check.due("led 3 steps, legs", x.led(0, 0, 3, 2), 5);
        // by plan q: wind 6 to 0 at pace 9, then FADED to 1
        Check.due("faded", x.led(0, 1, 2, 0), 1 + 9);
        Check.due("faded, wind", x.led(0, 1, 2, 1), 0);
        Check.due("faded, legs", x.led(0, 1, 2, 2), 6);
        // man n: 4 legs, 3 less, 1 less: OUT at the second step
        Check.due("out", x.run(1, 1, 0), -2);
        Check.due("out, wind", x.run(1, 1, 1), -2);
        Check.due("out, legs", x.run(1, 1, 2), -2);
        Check.due("out, steps", x.run(1, 1, 3), 2);
        Check.due("out, split 0", x.split(1, 1, 0), -2);
        Check.due("out, led 1", x.led(1, 1, 1, 2), 1);
        Check.due("out, led 2", x.led(1, 1, 2, 0), -2);
        Check.due("out, led 5", x.led(1, 1, 5, 0), -2);
        Check.due("led 6", x.led(1, 1, 6, 0), -1);
        Check.due("led -1", x.led(0, 0, -1, 0), -1);
        Check.due("led what 3", x.led(0, 0, 0, 3), -1);
        Check.due("run what 4", x.run(0, 0, 4), -1);
        Check.due("run what -1", x.run(0, 0, -1), -1);
        Check.due("run man 2", x.run(2, 0, 0), -1);
        Check.due("run plan 3", x.run(0, 3, 0), -1);
        Check.due("split stretch 3", x.split(0, 0, 3), -1);
        Check.due("split stretch -1", x.split(0, 0, -1), -1);
        Check.due("split man -1", x.split(-1, 0, 0), -1);
    }

    private static int ran(String laws, int what) {
        return Check.told("lane a 1 0;man m 30 30 5;hold h 0 0 0;plan p h 5;" + laws).run(0, 0, what);
    }

    private static void bounds() {
        Check.due("time 0 is 1", ran("law time 0;", 0), 1);
        Check.due("time 100 is 99", ran("law time 100;", 0), 99);
        Check.due("time with an error", ran("law time 1 / 0;", 0), 5);
        Check.due("cost 21 is 20", ran("law cost 21;", 1), 10);
        Check.due("cost without a law", ran("", 1), 29);
        Check.due("cost with an error", ran("law cost 1 / 0;", 1), 29);
        Check.due("cost below 0, wind is full", ran("law cost 0 - 9;", 1), 30);
        Check.due("ache 21 is 20", ran("law ache 21;", 2), 10);
        Check.due("ache below 0 is 0", ran("law ache 0 - 5;", 2), 30);
        Check.due("ache with an error", ran("law ache 1 / 0;", 2), 30);
        SackRace x = Check.told("lane a 3 0;man m 30 30 5;hold h 9 0 0;plan p h 5;law cost (wind = 30) * 20 - (wind = 1) * 30;");
        Check.due("20 and 9 less", x.led(0, 0, 1, 1), 1);
        Check.due("20 more and 9 less", x.led(0, 0, 2, 1), 12);
        SackRace z = Check.told("lane a 1 0;lane b 1 0;man m 60 40 5;man n 1 1 5;man o 1 40 5;man p 60 1 5;hold h 0 0 0;"
            + "plan p h 1;plan q h 2;plan r h 9;law time wind + legs / 2 - pace;law cost 0;");
        int[] winds = {60, 1, 1, 60};
        int[] legs = {40, 1, 40, 1};
        int[] paces = {1, 2, 9};
        for (int i = 0; i < 12; i++) {
            int time = Math.max(1, winds[i % 4] + legs[i % 4] / 2 - paces[i / 4]);
            Check.due("man " + i % 4 + " by plan " + i / 4, z.run(i % 4, i / 4, 0), 2 * time);
        }
        SackRace y = Check.told("lane a 3 0;man m 5 30 5;hold h 0 0 0;plan p h 9;law cost pace;law time pace * 10 + wind;");
        Check.due("as it is ahead", y.led(0, 0, 1, 0), 95);
        Check.due("faded pace in laws", y.led(0, 0, 2, 0), 105);
    }

    private static void noStretches() {
        SackRace x = Check.told("man m 6 10 9;hold h 0 0 5;plan p h 4;");
        Check.due("tenths", x.run(0, 0, 0), 0);
        Check.due("wind", x.run(0, 0, 1), 6);
        Check.due("steps", x.run(0, 0, 3), 0);
        Check.due("split", x.split(0, 0, 0), -1);
        Check.due("led 0", x.led(0, 0, 0, 2), 10);
        Check.due("led 1", x.led(0, 0, 1, 2), -1);
        Check.due("pace", x.pace(0, -1), 0);
        Check.due("pace", x.pace(0, 0), -1);
    }
}
