/** Each sentence of ==== 2. about a STEP and a RUN, and of promises 6 to 10 and 34, that names a boundary case. */
public final class StepBoundsTest {
    private static final long ERROR = Long.MIN_VALUE;

    public static void main(String[] args) {
        faded();
        time();
        cost();
        costOfHold();
        windKeepsWithin();
        ache();
        setsDown();
        names();
        asAhead();
        dampAndCurve();
        values();
        valuesOfTwo();
        errors();
        errorsInside();
        look();
        pace();
        law();
        lawOfAll();
        run();
        split();
        led();
        longest();
        noOnes();
        Check.finish("StepBoundsTest");
    }

    private static SackRace one(String man, String hold, int pace, String more) {
        return Check.told("lane a 3 0;man m " + man + ";hold h " + hold + ";plan p h " + pace + ";" + more);
    }

    private static void faded() {
        Check.sentence("with no wind left the pace is 1 (FADED)");
        SackRace x = one("2 9 9", "0 0 0", 9, "law cost 1;");
        // wind 2, 1, 0: the third STEP alone is FADED
        Check.due("wind 2", x.led(0, 0, 1, 0), 1);
        Check.due("wind 1 is left", x.led(0, 0, 2, 0), 2);
        Check.due("wind 0", x.led(0, 0, 3, 0), 11);
        Check.sentence("NAMES: pace (FADED: 1)");
        SackRace y = one("2 9 9", "0 0 0", 9, "law cost 1 + (pace = 1) * (0 - 2);law time pace;law ache (pace = 1) * 3;");
        Check.due("time", y.led(0, 0, 3, 0), 9 + 9 + 1);
        Check.due("wind", y.led(0, 0, 3, 1), 1);
        Check.due("ache", y.led(0, 0, 3, 2), 6);
        Check.sentence("FADED, and no law: pace and SLOPE less 4");
        SackRace z = Check.told("lane a 2 0;lane b 2 3;man m 5 9 9;hold h 0 0 0;plan p h 9;");
        Check.due("no wind is left", z.led(0, 0, 1, 1), 0);
        Check.due("3 more", z.led(0, 0, 2, 1), 3);
        Check.due("none again", z.led(0, 0, 3, 1), 0);
        Check.due("slope 3, none more", z.led(0, 0, 4, 1), 0);
        Check.due("FADED again", z.run(0, 0, 0), 1 + 9 + 1 + 9);
        Check.sentence("FADED paces of a BEST");
        Check.due("all paces are as one", one("1 9 9", "9 0 0", 9, "law cost 20;law time pace * 9;").best(0, 0), 9 + 9 + 9);
    }

    private static void time() {
        Check.sentence("E of time (1 .. 99 tenths)");
        String[] e = {"0", "0 - 1", "0 - 9999 * 9999", "1", "2", "98", "99", "100", "9999 * 9999 * 999"};
        int[] due = {1, 1, 1, 1, 2, 98, 99, 99, 99};
        for (int i = 0; i < e.length; i++) {
            SackRace x = one("9 9 9", "0 0 0", 4, "law time " + e[i] + ";");
            Check.due("run of time " + e[i], x.run(0, 0, 0), 3 * due[i]);
            Check.due("best of time " + e[i], x.best(0, 0), 3 * due[i]);
            x.race(0, 0);
            x.go(1);
            Check.due("a RACE of time " + e[i], x.now(1), due[i]);
        }
        Check.sentence("time: 10 less pace without a law, with an ERROR");
        for (int pace = 1; pace <= 9; pace++) {
            Check.due("pace " + pace, one("60 9 9", "0 0 0", pace, "").run(0, 0, 0), 3 * (10 - pace));
            Check.due("pace " + pace, one("60 9 9", "0 0 0", pace, "law time 5 / 0;").run(0, 0, 0), 3 * (10 - pace));
        }
        Check.due("an ERROR at pace 5 alone", one("60 9 9", "0 0 0", 5, "law time 50 / (pace - 5);").run(0, 0, 0), 15);
        Check.due("none at pace 6", one("60 9 9", "0 0 0", 6, "law time 50 / (pace - 5);").run(0, 0, 0), 150);
    }

    private static void cost() {
        Check.sentence("E of cost (-20 .. 20)");
        String[] e = {"19", "20", "21", "9999", "9999 * 9999 * 999", "0", "1"};
        int[] due = {19, 20, 20, 20, 20, 0, 1};
        for (int i = 0; i < e.length; i++) {
            Check.due("cost " + e[i], one("60 9 9", "0 0 0", 4, "law cost " + e[i] + ";").led(0, 0, 1, 1), 60 - due[i]);
            String less = "law cost (wind = 60) * 20 - (wind <= 40) * (" + e[i] + ");";
            Check.due("less than 0 by " + e[i], one("60 9 9", "0 0 0", 4, less).led(0, 0, 2, 1), 40 + due[i]);
        }
        Check.sentence("cost: pace and SLOPE less 4 without, with an ERROR");
        for (int pace = 1; pace <= 9; pace++) {
            for (int slope = 0; slope <= 9; slope++) {
                String text = "lane a 2 0;lane b 1 " + slope + ";man m 60 9 9;hold h 9 0 0;plan p h 9 " + pace + ";";
                int ahead = 60 - 2 * (9 - 4 + 9);
                Check.due("pace " + pace + ", slope " + slope, Check.told(text).run(0, 0, 1), ahead - (pace + slope - 4 + 9));
                Check.due("pace " + pace + ", slope " + slope + ", an ERROR",
                    Check.told(text + "law cost 1 / (2 - 2);").run(0, 0, 1), ahead - (pace + slope - 4 + 9));
            }
        }
    }

    private static void costOfHold() {
        Check.sentence("wind is less by E of cost and what the HOLD costs more");
        for (int hold = 0; hold <= 9; hold++) {
            SackRace x = one("60 9 9", hold + " 0 0", 4, "law cost 3;");
            Check.due("hold " + hold, x.led(0, 0, 1, 1), 60 - 3 - hold);
            Check.due("hold " + hold + " beyond 20", one("60 9 9", hold + " 0 0", 4, "law cost 30;").led(0, 0, 1, 1), 40 - hold);
            String back = "law cost (wind = 60) * 20 - (wind < 60) * 30;";
            Check.due("hold " + hold + " less than 20 back", one("60 9 9", hold + " 0 0", 4, back).led(0, 0, 2, 1),
                40 - hold + 20 - hold);
        }
    }

    private static void windKeepsWithin() {
        Check.sentence("wind: 0 at least");
        Check.due("just none", one("12 9 9", "2 0 0", 4, "law cost 10;").led(0, 0, 1, 1), 0);
        Check.due("one less", one("11 9 9", "2 0 0", 4, "law cost 10;").led(0, 0, 1, 1), 0);
        Check.due("one more", one("13 9 9", "2 0 0", 4, "law cost 10;").led(0, 0, 1, 1), 1);
        Check.due("none is owed", one("1 9 9", "0 0 0", 4, "law cost (wind > 0) * 20 - (wind = 0) * 2;").led(0, 0, 2, 1), 1);
        Check.sentence("wind: his WIND at most");
        for (int more = 0; more <= 12; more++) {
            SackRace x = one("12 9 9", "0 0 0", 4, "law cost (wind = 12) * 5 - (wind = 7) * " + more + ";");
            Check.due(more + " more", x.led(0, 0, 2, 1), Math.min(12, 7 + more));
        }
        Check.due("at first", one("12 9 9", "0 0 0", 4, "law cost 0 - 9;").led(0, 0, 1, 1), 12);
        Check.sentence("wind: both at once, of E and the HOLD together");
        Check.due("20 back, 9 more", one("12 9 9", "9 0 0", 4, "law cost 0 - 20;").led(0, 0, 1, 1), 12);
        Check.due("5 back, 9 more", one("12 9 9", "9 0 0", 4, "law cost 0 - 5;").led(0, 0, 1, 1), 8);
    }

    private static void ache() {
        Check.sentence("E of ache (0 .. 20; 0 without, with an ERROR)");
        String[] e = {"0", "1", "19", "20", "21", "9999", "0 - 1", "0 - 9999", "1 / 0"};
        int[] due = {0, 1, 19, 20, 20, 20, 0, 0, 0};
        for (int i = 0; i < e.length; i++) {
            Check.due("ache " + e[i], one("9 40 9", "0 0 0", 4, "law ache " + e[i] + ";").led(0, 0, 1, 2), 40 - due[i]);
        }
        Check.due("without", one("9 40 9", "0 0 0", 4, "").run(0, 0, 2), 40);
        Check.sentence("legs are less by E of ache, 0 at least");
        SackRace x = one("9 5 9", "0 0 0", 4, "law ache 9;");
        x.race(0, 0);
        x.go(1);
        Check.due("legs", x.now(3), 0);
    }

    private static void setsDown() {
        Check.sentence("With no legs left behind it he SETS DOWN the sack: he is OUT");
        for (int legs = 1; legs <= 12; legs++) {
            SackRace x = one("9 " + legs + " 9", "0 0 0", 4, "law ache 3;");
            int steps = Math.min(3, (legs + 2) / 3);
            boolean out = legs <= 9;
            Check.due(legs + " legs, tenths", x.run(0, 0, 0), out ? -2 : 18);
            Check.due(legs + " legs, wind", x.run(0, 0, 1), out ? -2 : 9);
            Check.due(legs + " legs, legs", x.run(0, 0, 2), out ? -2 : legs - 9);
            Check.due(legs + " legs, STEPS done", x.run(0, 0, 3), steps);
            for (int n = 0; n <= 3; n++) {
                Check.due(legs + " legs, led " + n, x.led(0, 0, n, 2), legs <= 3 * n ? -2 : legs - 3 * n);
            }
            x.race(0, 0);
            Check.due(legs + " legs, go", x.go(120), steps);
            Check.due(legs + " legs, now", x.now(5), out ? 2 : 1);
            Check.due(legs + " legs, tenths of them", x.now(1), 6 * steps);
        }
        Check.sentence("OUT at the last STEP of all");
        Check.due("run", one("9 3 9", "0 0 0", 4, "law ache 1;").run(0, 0, 0), -2);
        Check.due("split", one("9 3 9", "0 0 0", 4, "law ache 1;").split(0, 0, 0), -2);
        Check.due("best", one("9 3 9", "0 0 0", 4, "law ache 1;").best(0, 0), -2);
        Check.due("best with one leg more", one("9 4 9", "0 0 0", 4, "law ache 1;").best(0, 0), 6);
    }

    private static void names() {
        Check.sentence("NAMES: pace, slope, heavy: the SACK, weight, wind, legs");
        SackRace x = Check.told("lane a 1 7;man m 13 11 17;hold h 0 0 0;plan p h 6;load 23;law time pace * 10 + slope;"
            + "law cost heavy * 1000 + weight;law ache wind * 1000 + legs;");
        Check.due("pace, slope", x.law(0, 0, 0, 6), 67);
        Check.due("heavy, weight", x.law(1, 0, 0, 6), 23017);
        Check.due("wind, legs", x.law(2, 0, 0, 6), 13011);
        x.sack(0);
        Check.due("no SACK", x.law(1, 0, 0, 6), 17);
        x.sack(30);
        Check.due("SACK 30", x.law(1, 0, 0, 6), 30017);
    }

    private static void asAhead() {
        Check.sentence("NAMES, as they are ahead of it");
        SackRace x = Check.told("lane a 4 0;man m 50 20 5;hold h 1 0 0;plan p h 5;law time wind + legs;law cost legs;law ache wind / 10;");
        int wind = 50;
        int legs = 20;
        int tenths = 0;
        for (int n = 1; n <= 4; n++) {
            tenths += Math.min(99, wind + legs);
            int left = Math.max(0, wind - Math.min(20, legs) - 1);
            legs -= wind / 10;
            wind = left;
            Check.due("tenths behind " + n, x.led(0, 0, n, 0), tenths);
            Check.due("wind behind " + n, x.led(0, 0, n, 1), wind);
            Check.due("legs behind " + n, x.led(0, 0, n, 2), legs);
        }
    }

    private static void dampAndCurve() {
        Check.sentence("damp: 1, if it is WET (or it rains), curve: 1, if there is a BEND");
        SackRace x = Check.told("lane a 1 0;lane b 1 0 bend;lane c 1 0 wet;lane d 1 0 bend wet;man m 9 9 9;hold h 0 0 0;"
            + "plan p h 5;law time damp * 10 + curve + 1;law cost damp * 2 + curve;");
        for (int rain = 0; rain <= 1; rain++) {
            int sum = 0;
            for (int i = 0; i < 4; i++) {
                int damp = rain == 1 || i >= 2 ? 1 : 0;
                Check.due("time in " + i, x.law(0, 0, i, 1), damp * 10 + i % 2 + 1);
                Check.due("cost in " + i, x.law(1, 0, i, 1), damp * 2 + i % 2);
                sum += damp * 10 + i % 2 + 1;
                Check.due("split of " + i, x.split(0, 0, i), sum);
            }
            Check.due("all are WET in rain", x.rain(true), 4);
        }
        Check.due("those that are WET", x.rain(false), 2);
        Check.due("dry again", x.law(0, 0, 0, 1), 1);
        Check.due("still WET", x.law(0, 0, 2, 1), 11);
    }

    private static void value(String e, long due) {
        SackRace x = Check.told("lane a 1 2;man m 3 4 5;law ache " + e + ";");
        Check.due(e, x.law(2, 0, 0, 7), due);
    }

    private static void values() {
        Check.sentence("comparisons, and, or, not are 1 or 0");
        value("(3 < 4) + (3 <= 3) + (3 = 3) + (3 <> 4) + (4 >= 4) + (4 > 3)", 6);
        value("(3 < 3) + (4 <= 3) + (3 = 4) + (3 <> 3) + (3 >= 4) + (3 > 3)", 0);
        value("(5 and 7) * 10 + (0 or 9)", 11);
        value("(0 - 5 and 0 - 7) * 10 + (0 - 9 or 0)", 11);
        value("(not 7) * 10 + (not 0)", 1);
        value("(not (0 - 1)) * 10 + (not (0 - 0))", 1);
        Check.sentence("what isn't 0 is as 1");
        value("2 and 4", 1);
        value("0 and 4", 0);
        value("4 and 0", 0);
        value("0 or 0", 0);
        value("0 or (0 - 3)", 1);
        value("not not (0 - 3)", 1);
        Check.sentence("/ is cut towards 0");
        value("7 / 2", 3);
        value("(0 - 7) / 2", -3);
        value("7 / (0 - 2)", -3);
        value("(0 - 7) / (0 - 2)", 3);
        value("(0 - 1) / 2", 0);
        value("1 / 9999", 0);
        value("0 / 5", 0);
        value("0 - 7 / 2", -3);
        Check.sentence("S, T: from the left");
        value("9 - 3 - 2", 4);
        value("9 - 3 + 2", 8);
        value("100 / 10 / 5", 2);
        value("100 / 10 * 5", 50);
        value("7 * 3 / 2", 10);
        value("7 / 2 * 2", 6);
        value("1 - 2 * 3 - 4", -9);
        value("2 * 3 + 4 * 5 - 6 / 4", 25);
    }

    private static void valuesOfTwo() {
        Check.sentence("E: A { or A }, A: B { and B }, B: not B | C, C: S [ .. S ]");
        value("1 or 0 and 0", 1);
        value("0 and 0 or 1", 1);
        value("1 and 0 or 0 and 1", 0);
        value("not 0 and 0", 0);
        value("not 1 or 1", 1);
        value("not (1 or 1)", 0);
        value("not 2 = 3", 1);
        value("(not 2) = 3", 0);
        value("not 1 + 1", 0);
        value("not 1 - 1", 1);
        value("not not 0 = 0", 1);
        value("1 + 1 = 2 and 3 - 1 > 1", 1);
        value("1 = 2 or 3 * 2 = 6", 1);
        value("5 > 3 and not 2 > 3", 1);
        value("1 + (not 0)", 2);
        value("2 * (3 < 4 and 0 or 1) + 1", 3);
        value("3 - (2 - (1 - (0 - (1))))", 3);
    }

    private static void errors() {
        Check.sentence("ERROR: / by 0");
        value("1 / 0", ERROR);
        value("0 / 0", ERROR);
        value("5 / (3 - 3)", ERROR);
        value("5 / (3 < 2)", ERROR);
        value("5 / (3 > 2)", 5);
        Check.sentence("ERROR: a value above 10 to the 12");
        value("1000 * 1000 * 1000 * 1000", 1000000000000L);
        value("1000 * 1000 * 1000 * 1000 - 1", 999999999999L);
        value("1000 * 1000 * 1000 * 1000 + 0", 1000000000000L);
        value("1000 * 1000 * 1000 * 1000 + 1", ERROR);
        value("1 + 1000 * 1000 * 1000 * 1000", ERROR);
        value("1000 * 1000 * 1000 * 1000 - (0 - 1)", ERROR);
        value("9999 * 9999 * 9999 * 2", ERROR);
        value("5000 * 5000 * 200 * 200 * 1", 1000000000000L);
        value("5000 * 5000 * 200 * 200 * (0 - 1)", -1000000000000L);
        value("5000 * 5000 * 200 * 201", ERROR);
        value("(1000 * 1000) * (1000 * 1000)", 1000000000000L);
        value("(1000 * 1000 + 1) * (1000 * 1000)", ERROR);
        value("(1000 * 1000) * (1000 * 1000 + 1)", ERROR);
        Check.sentence("ERROR: or below 0 by more than that");
        value("0 - 1000 * 1000 * 1000 * 1000", -1000000000000L);
        value("0 - 1000 * 1000 * 1000 * 1000 - 1", ERROR);
        value("0 - 1000 * 1000 * 1000 * 1000 + 1", -999999999999L);
        value("(0 - 1000) * 1000 * 1000 * 1000", -1000000000000L);
        value("1000 * 1000 * 1000 * (0 - 1000)", -1000000000000L);
        value("1000 * 1000 * 1000 * (0 - 1001)", ERROR);
        value("(0 - 1000 * 1000 - 1) * (1000 * 1000)", ERROR);
        value("(0 - 1000 * 1000) * (0 - 1000 * 1000)", 1000000000000L);
        value("(0 - 1000 * 1000) * (0 - 1000 * 1000 - 1)", ERROR);
        value("(0 - 1000 * 1000 * 1000 * 1000) / (0 - 1)", 1000000000000L);
        Check.sentence("VALUES are longs: a product beyond a long is an ERROR too");
        String most = "(1000 * 1000 * 1000 * 1000)";
        value(most + " * " + most, ERROR);
        value(most + " * (0 - " + most + ")", ERROR);
        value("(4096 * 4096 * 4096) * (4096 * 4096 * 4096)", ERROR);
        value("(4096 * 4096 * 64) * (4096 * 4096 * 4096)", ERROR);
        value("(4096 * 4096 * 256) * (4096 * 4096 * 256)", ERROR);
        value(most + " * 0", 0);
        value("0 * " + most, 0);
        value(most + " * 1", 1000000000000L);
        value("1 * (0 - " + most + ")", -1000000000000L);
    }

    private static void errorsInside() {
        Check.sentence("both sides are worked out: an ERROR in one is one of all");
        value("0 and 1 / 0", ERROR);
        value("1 / 0 and 0", ERROR);
        value("1 or 1 / 0", ERROR);
        value("1 / 0 or 1", ERROR);
        value("not (1 / 0)", ERROR);
        value("(1 / 0) * 0", ERROR);
        value("0 * (1 / 0)", ERROR);
        value("0 / (1 / 0)", ERROR);
        value("1 / 0 = 1 / 0", ERROR);
        value("1 / 0 < 5", ERROR);
        value("9999 * 9999 * 9999 * 9999 > 0", ERROR);
        value("9999 * 9999 * 9999 * 9999 * 0", ERROR);
        value("9999 * 9999 * 9999 * 9999 - 9999 * 9999 * 9999 * 9999", ERROR);
        value("0 - 9999 * 9999 * 9999 * 9999 < 0", ERROR);
    }

    private static void look() {
        Check.sentence("look: IndexOutOfBoundsException: no such STRETCH");
        SackRace x = Check.told("lane a 5 6;lane b 7 8 bend wet;");
        int[] none = {2, 3, 6, -1, Integer.MAX_VALUE, Integer.MIN_VALUE};
        for (int i : none) {
            for (int what = -1; what <= 4; what++) {
                Check.due("look(" + i + ", " + what + ")", Check.lookThrows(x, i, what), 1);
            }
        }
        Check.due("of an empty TEXT", Check.lookThrows(new SackRace(), 0, 0), 1);
        Check.sentence("look: NoSuchElementException: no such what");
        for (int what : new int[] {4, 5, -1, Integer.MAX_VALUE, Integer.MIN_VALUE}) {
            Check.due("look(0, " + what + ")", Check.lookThrows(x, 0, what), 2);
            Check.due("look(1, " + what + ")", Check.lookThrows(x, 1, what), 2);
        }
        for (int i = 0; i < 2; i++) {
            for (int what = 0; what < 4; what++) {
                Check.due("look(" + i + ", " + what + ")", Check.lookThrows(x, i, what), 0);
            }
        }
        Check.sentence("look: WET now (1, 0)");
        Check.due("dry", x.look(0, 3), 0);
        Check.due("wet", x.look(1, 3), 1);
        x.rain(true);
        Check.due("in rain", x.look(0, 3), 1);
        Check.due("wet in rain", x.look(1, 3), 1);
        Check.due("BEND isn't rain's", x.look(0, 2), 0);
        x.rain(false);
        Check.due("dry again", x.look(0, 3), 0);
        Check.due("wet again", x.look(1, 3), 1);
    }

    private static void pace() {
        Check.sentence("pace: (-1: its HOLD); NONE: no such ones");
        SackRace x = Check.told("lane a 1 1;lane b 1 1;hold h 0 0 0;hold i 0 0 0;plan p i 3 8;plan q h 5;");
        Check.due("HOLD of 0", x.pace(0, -1), 1);
        Check.due("HOLD of 1", x.pace(1, -1), 0);
        Check.due("first", x.pace(0, 0), 3);
        Check.due("second", x.pace(0, 1), 8);
        Check.due("STRETCH 2", x.pace(0, 2), -1);
        Check.due("STRETCH -2", x.pace(0, -2), -1);
        Check.due("PLAN 2", x.pace(2, 0), -1);
        Check.due("HOLD of PLAN 2", x.pace(2, -1), -1);
        Check.due("PLAN -1", x.pace(-1, 0), -1);
        Check.due("HOLD of PLAN -1", x.pace(-1, -1), -1);
        Check.due("far away", x.pace(0, Integer.MAX_VALUE), -1);
        Check.due("far away", x.pace(0, Integer.MIN_VALUE), -1);
    }

    private static void law() {
        Check.sentence("law: Long.MIN_VALUE: an ERROR, no such law, no such ones");
        SackRace x = Check.told("lane a 1 1;man m 3 4 5;law time 7 / (pace - 2);law ache pace;law gain 1;law jam 1;");
        Check.due("an ERROR", x.law(0, 0, 0, 2), ERROR);
        Check.due("none", x.law(0, 0, 0, 3), 7);
        Check.due("law cost isn't told", x.law(1, 0, 0, 3), ERROR);
        Check.due("ache", x.law(2, 0, 0, 3), 3);
        for (int what : new int[] {3, 4, 6, 7, 8, -1, Integer.MIN_VALUE, Integer.MAX_VALUE}) {
            Check.due("what " + what, x.law(what, 0, 0, 3), ERROR);
        }
        for (int none : new int[] {1, 5, -1, Integer.MIN_VALUE, Integer.MAX_VALUE}) {
            Check.due("man " + none, x.law(0, none, 0, 3), ERROR);
            Check.due("stretch " + none, x.law(0, 0, none, 3), ERROR);
        }
        Check.sentence("law: at a pace (1 .. 9)");
        for (int pace = 1; pace <= 9; pace++) {
            Check.due("pace " + pace, x.law(2, 0, 0, pace), pace);
        }
        for (int none : new int[] {0, 10, -1, Integer.MIN_VALUE, Integer.MAX_VALUE}) {
            Check.due("pace " + none, x.law(2, 0, 0, none), ERROR);
        }
    }

    private static void lawOfAll() {
        Check.sentence("law: E itself, whatever a STEP may take");
        SackRace x = Check.told("lane a 1 1;man m 3 4 5;law time 0 - 1000;law cost 1000 * 1000;law ache 0 - 1;");
        Check.due("time", x.law(0, 0, 0, 1), -1000);
        Check.due("cost", x.law(1, 0, 0, 1), 1000000);
        Check.due("ache", x.law(2, 0, 0, 1), -1);
        Check.sentence("law: with wind and legs as at first");
        SackRace y = Check.told("lane a 3 0;man m 30 40 5;man n 5 6 5;hold h 0 0 0;plan p h 9;law cost wind * 100 + legs;law ache 1;");
        y.race(0, 0);
        y.go(2);
        Check.due("of a MAN on his way", y.law(1, 0, 0, 9), 3040);
        Check.due("of another one", y.law(1, 1, 0, 9), 506);
    }

    private static void run() {
        Check.sentence("run: -2: he is OUT (but for 3); NONE: no such ones");
        SackRace x = Check.told("lane a 2 0;lane b 2 5;man m 9 9 9;man n 9 3 9;hold h 0 0 0;plan p h 4;law ache slope / 2;");
        int[] up = {24, 0, 5, 4};
        int[] out = {-2, -2, -2, 4};
        for (int what = 0; what <= 3; what++) {
            Check.due("up, what " + what, x.run(0, 0, what), up[what]);
            Check.due("OUT, what " + what, x.run(1, 0, what), out[what]);
        }
        for (int what : new int[] {4, 5, -1, -2, Integer.MAX_VALUE, Integer.MIN_VALUE}) {
            Check.due("what " + what, x.run(0, 0, what), -1);
            Check.due("OUT, what " + what, x.run(1, 0, what), -1);
        }
        Check.sentence("a RUN: nothing slips");
        SackRace y = Check.told("lane a 9 0 wet;man m 9 9 9;hold h 0 99 99;plan p h 4;");
        y.rain(true);
        Check.due("tenths", y.run(0, 0, 0), 54);
        Check.due("split", y.split(0, 0, 0), 54);
        Check.due("led", y.led(0, 0, 9, 0), 54);
        Check.due("best", y.best(0, 0) <= 54, true);
    }

    private static void split() {
        Check.sentence("split: -2: he is OUT by then");
        SackRace x = Check.told("lane a 2 0;lane b 2 5;lane c 1 0;man m 9 9 9;man n 9 4 9;man o 9 3 9;hold h 0 0 0;plan p h 4;"
            + "law ache slope / 2;");
        // behind the slope man 0 has no wind left and is FADED
        int[][] due = {{12, 24, 33}, {12, -2, -2}, {12, -2, -2}};
        for (int man = 0; man < 3; man++) {
            for (int i = 0; i < 3; i++) {
                Check.due("split(" + man + ", 0, " + i + ")", x.split(man, 0, i), due[man][i]);
            }
        }
        Check.due("OUT, no such STRETCH", x.split(1, 0, 3), -1);
        Check.due("STRETCH -1", x.split(0, 0, -1), -1);
        Check.due("STRETCH 3", x.split(0, 0, 3), -1);
    }

    private static void led() {
        Check.sentence("led: behind n STEPS (0 up); NONE: not so many STEPS");
        SackRace x = Check.told("lane a 2 0;lane b 3 0;man m 9 9 9;man n 9 2 9;hold h 0 0 0;plan p h 5;law ache 1;");
        for (int n = 0; n <= 5; n++) {
            Check.due("tenths behind " + n, x.led(0, 0, n, 0), 5 * n);
            Check.due("wind behind " + n, x.led(0, 0, n, 1), 9 - n);
            Check.due("legs behind " + n, x.led(0, 0, n, 2), 9 - n);
            Check.due("OUT by " + n, x.led(1, 0, n, 0), n < 2 ? 5 * n : -2);
        }
        for (int n : new int[] {6, 120, -1, Integer.MAX_VALUE, Integer.MIN_VALUE}) {
            Check.due("led " + n, x.led(0, 0, n, 0), -1);
            Check.due("OUT, led " + n, x.led(1, 0, n, 0), -1);
        }
        for (int what : new int[] {3, -1, Integer.MAX_VALUE, Integer.MIN_VALUE}) {
            Check.due("what " + what, x.led(0, 0, 1, what), -1);
        }
    }

    private static void longest() {
        Check.sentence("all STEPS of all STRETCHES: 120 at most");
        SackRace x = Check.told("lane a 20 0;lane b 20 0;lane c 20 0;lane d 20 0;lane e 20 0;lane f 20 0;man m 9 40 9;"
            + "hold h 0 0 0;plan p h 1 2 3 4 1 2;law time 99;law cost 0;");
        Check.due("STEPS", x.run(0, 0, 3), 120);
        Check.due("count(5)", x.count(5), 120);
        Check.due("tenths", x.run(0, 0, 0), 120 * 99);
        Check.due("best", x.best(0, 0), 120 * 99);
        for (int i = 0; i < 6; i++) {
            Check.due("split " + i, x.split(0, 0, i), (i + 1) * 20 * 99);
        }
        Check.due("led 120", x.led(0, 0, 120, 0), 120 * 99);
        Check.due("led 121", x.led(0, 0, 121, 0), -1);
        Check.sentence("all STEPS of all STRETCHES: none");
        SackRace y = Check.told("man m 6 5 9;hold h 0 0 0;plan p h 1;");
        Check.due("tenths", y.run(0, 0, 0), 0);
        Check.due("wind", y.run(0, 0, 1), 6);
        Check.due("legs", y.run(0, 0, 2), 5);
        Check.due("STEPS", y.run(0, 0, 3), 0);
        Check.due("led 0", y.led(0, 0, 0, 1), 6);
        Check.due("led 1", y.led(0, 0, 1, 1), -1);
        Check.due("count(5)", y.count(5), 0);
    }

    private static void noOnes() {
        Check.sentence("NONE: no such ones");
        SackRace x = Check.told("lane a 1 0;man m 9 9 9;man n 9 9 9;hold h 0 0 0;plan p h 1;plan q h 1;plan r h 1;");
        for (int none : new int[] {-1, 5, Integer.MAX_VALUE, Integer.MIN_VALUE}) {
            Check.due("run, man " + none, x.run(none, 0, 0), -1);
            Check.due("run, plan " + none, x.run(0, none, 0), -1);
            Check.due("split, man " + none, x.split(none, 0, 0), -1);
            Check.due("split, plan " + none, x.split(0, none, 0), -1);
            Check.due("led, man " + none, x.led(none, 0, 0, 0), -1);
            Check.due("led, plan " + none, x.led(0, none, 0, 0), -1);
        }
        Check.due("run, man 2", x.run(2, 0, 0), -1);
        Check.due("run, man 1", x.run(1, 0, 0), 9);
        Check.due("run, plan 3", x.run(0, 3, 0), -1);
        Check.due("run, plan 2", x.run(0, 2, 0), 9);
        Check.due("split, man 2", x.split(2, 0, 0), -1);
        Check.due("split, plan 3", x.split(0, 3, 0), -1);
        Check.due("led, man 2", x.led(2, 0, 0, 0), -1);
        Check.due("led, plan 3", x.led(0, 3, 0, 0), -1);
        Check.due("what of no such ones", x.run(2, 0, 3), -1);
    }
}
