/** Each sentence about SPLITS and FITS (==== 3., promises 28 to 31 and 43) that names a boundary case. */
public final class SplitsBoundsTest {
    private static final String LANE = "lane a 2 0;lane b 2 3;lane c 1 0;man m 6 10 9;man n 6 10 25;hold h 0 0 0;hold i 2 50 9;"
        + "plan p h 5 4;plan q i 9 1;plan r h 3;law ache slope;law time 11 - pace + (wind < 5) + legs / 20 + weight / 20;";

    public static void main(String[] args) {
        note();
        atMost();
        strike();
        struckStrikes();
        known();
        knownToCome();
        count();
        all();
        ends();
        outByThen();
        laterSplits();
        plansApart();
        ofHis();
        twice();
        asNow();
        nextText();
        noOnes();
        Check.finish("SplitsBoundsTest");
    }

    private static void note() {
        Check.sentence("note: A SPLIT (tenths 0 .. 99999): its number; NONE: no such ones");
        SackRace x = Check.told(LANE);
        for (int none : new int[] {-1, 100000, Integer.MAX_VALUE, Integer.MIN_VALUE}) {
            Check.due("tenths " + none, x.note(0, 0, 0, none), -1);
        }
        for (int none : new int[] {5, -1, Integer.MAX_VALUE, Integer.MIN_VALUE}) {
            Check.due("man " + none, x.note(none, 0, 0, 5), -1);
            Check.due("plan " + none, x.note(0, none, 0, 5), -1);
            Check.due("stretch " + none, x.note(0, 0, none, 5), -1);
        }
        Check.due("man 2", x.note(2, 0, 0, 5), -1);
        Check.due("plan 3", x.note(0, 3, 0, 5), -1);
        Check.due("stretch 3", x.note(0, 0, 3, 5), -1);
        Check.due("none yet", x.count(6), 0);
        Check.due("tenths 0", x.note(0, 0, 0, 0), 0);
        Check.due("tenths 99999", x.note(1, 2, 2, 99999), 1);
        Check.due("both", x.count(6), 2);
    }

    private static void atMost() {
        Check.sentence("SPLITS, at most 24, numbered from 0 on");
        SackRace x = Check.told(LANE);
        for (int i = 0; i < 24; i++) {
            Check.due("number", i % 3 == 2 ? x.strike(i - 1) : x.note(i % 2, i % 3, i % 3, i), i);
            Check.due("count(6)", x.count(6), i + 1);
        }
        Check.due("there are 24", x.note(0, 0, 0, 5), -1);
        Check.due("there are 24", x.strike(0), -1);
        Check.due("count(6)", x.count(6), 24);
        Check.due("known(24)", x.known(24), true);
        Check.due("known(25)", x.known(25), false);
    }

    private static void strike() {
        Check.sentence("strike: A STRIKE: its number; NONE: no such SPLIT");
        SackRace x = Check.told(LANE);
        for (int none : new int[] {0, 1, 24, -1, Integer.MAX_VALUE, Integer.MIN_VALUE}) {
            Check.due("strike(" + none + ")", x.strike(none), -1);
        }
        x.note(0, 0, 0, 5);
        Check.due("not yet there", x.strike(1), -1);
        Check.due("strike(0)", x.strike(0), 1);
        Check.due("itself not yet there", x.strike(2), -1);
        Check.due("the STRIKE", x.strike(1), 2);
        Check.due("once more", x.strike(0), 3);
    }

    private static void struckStrikes() {
        Check.sentence("a STRIKE may be STRUCK: then it doesn't count; asked from the last one on");
        SackRace x = Check.told(LANE);
        x.note(0, 0, 0, 99999);
        int fits = 0;
        for (int i = 0; i < 23; i++) {
            // each STRIKE strikes the one ahead of it: all or none, in turn
            Check.due("chain of " + i, x.fits(0, 0), fits);
            x.strike(i);
            fits = 2400 - fits;
        }
        Check.due("chain of 23", x.fits(0, 0), fits);
        SackRace y = Check.told(LANE);
        y.note(0, 0, 0, 99999);
        y.strike(0);
        y.strike(0);
        Check.due("STRUCK twice", y.fits(0, 0), 2400);
        y.strike(1);
        Check.due("by one of them", y.fits(0, 0), 2400);
        y.strike(2);
        Check.due("by none", y.fits(0, 0), 0);
        y.strike(4);
        Check.due("by one again", y.fits(0, 0), 2400);
        Check.sentence("STRUCK by one of these: a later STRIKE isn't KNOWN");
        int[] due = {2400, 0, 2400, 2400, 2400, 0, 2400};
        for (int n = 0; n <= 6; n++) {
            y.known(n);
            Check.due("known by " + n, y.fits(0, 0), due[n]);
        }
    }

    private static void known() {
        Check.sentence("known: KNOWN by n: true; false: no such n");
        SackRace x = Check.told(LANE);
        Check.due("known(0) of none", x.known(0), true);
        Check.due("known(1) of none", x.known(1), false);
        Check.due("known(-1)", x.known(-1), true);
        x.note(0, 0, 0, 1);
        x.note(0, 0, 1, 2);
        for (int n = -1; n <= 2; n++) {
            Check.due("known(" + n + ")", x.known(n), true);
            Check.due("count(7)", x.count(7), n < 0 ? 2 : n);
        }
        x.known(1);
        for (int none : new int[] {3, 24, -2, Integer.MAX_VALUE, Integer.MIN_VALUE}) {
            Check.due("known(" + none + ")", x.known(none), false);
            Check.due("stays", x.count(7), 1);
        }
    }

    private static void knownToCome() {
        Check.sentence("known: (-1: by all, also those to come)");
        SackRace x = Check.told(LANE);
        Check.due("all at first", x.count(7), 0);
        x.note(0, 0, 0, 99999);
        Check.due("all at first", x.count(7), 1);
        Check.due("fits", x.fits(0, 0), 0);
        x.known(1);
        x.strike(0);
        Check.due("by 1", x.count(7), 1);
        Check.due("one to come isn't KNOWN", x.fits(0, 0), 0);
        x.known(-1);
        Check.due("by all", x.count(7), 2);
        Check.due("it is KNOWN", x.fits(0, 0), 2400);
        x.strike(1);
        Check.due("also those to come", x.count(7), 3);
        Check.due("it is KNOWN", x.fits(0, 0), 0);
        x.known(0);
        Check.due("by none", x.fits(0, 0), 2400);
        x.strike(2);
        Check.due("by none", x.count(7), 0);
    }

    private static void count() {
        Check.sentence("count: 6 SPLITS, 7 by how many it is KNOWN: RACE and IMAGE leave them");
        SackRace x = Check.told(LANE);
        x.note(0, 0, 0, 7);
        x.keep();
        x.note(0, 0, 0, 8);
        x.known(1);
        x.race(0, 0);
        x.go(2);
        x.undo();
        x.back();
        Check.due("count(6)", x.count(6), 2);
        Check.due("count(7)", x.count(7), 1);
    }

    /** Winds and legs by which a MAN would have had these SPLITS, counted by objects whose man is another one each. */
    private static int[] counted(String lane, String man, int[][] splits, int sack, boolean rain) {
        int[] due = {0, 99, 0, 99, 0};
        for (int wind = 1; wind <= 60; wind++) {
            for (int legs = 1; legs <= 40; legs++) {
                SackRace y = Check.told(lane.replace(man, man.substring(0, 6) + wind + " " + legs + man.substring(man.lastIndexOf(' '))));
                y.sack(sack);
                y.rain(rain);
                boolean fits = true;
                for (int[] split : splits) {
                    fits &= y.split(0, split[0], split[1]) == split[2];
                }
                if (fits) {
                    due[0]++;
                    due[1] = Math.min(due[1], wind);
                    due[2] = Math.max(due[2], wind);
                    due[3] = Math.min(due[3], legs);
                    due[4] = Math.max(due[4], legs);
                }
            }
        }
        for (int i = 1; i <= 4; i++) {
            due[i] = due[0] == 0 ? -2 : due[i];
        }
        return due;
    }

    private static void sameFits(String when, SackRace x, int man, int... due) {
        for (int i = 0; i <= 4; i++) {
            Check.due(when + ", fits(" + man + ", " + i + ")", x.fits(man, i), due[i]);
        }
    }

    private static void all() {
        Check.sentence("FITS: WINDS 1 .. 60 and LEGS 1 .. 40");
        SackRace x = Check.told(LANE);
        sameFits("no SPLITS", x, 0, 2400, 1, 60, 1, 40);
        sameFits("no SPLITS", x, 1, 2400, 1, 60, 1, 40);
        Check.sentence("fits: what 0: how many, 1, 2: the least, the greatest WIND, 3, 4: LEGS likewise (-2: there are none)");
        x.note(0, 0, 0, 99999);
        sameFits("none", x, 0, 0, -2, -2, -2, -2);
        Check.sentence("FITS of no STRETCHES");
        sameFits("no STRETCHES", Check.told("man m 6 10 9;"), 0, 2400, 1, 60, 1, 40);
    }

    private static void ends() {
        Check.sentence("fits: the least, the greatest WIND, LEGS likewise");
        String lane = "lane a 1 0;man m 9 9 9;hold h 0 0 0;plan p h 1;law time ";
        SackRace x = Check.told(lane + "2 - (wind >= 17 and wind <= 19 and legs >= 31 and legs <= 36);");
        x.note(0, 0, 0, 1);
        sameFits("3 by 6", x, 0, 18, 17, 19, 31, 36);
        SackRace y = Check.told(lane + "2 - (wind >= 50 and wind <= 60 and legs >= 1 and legs <= 2);");
        y.note(0, 0, 0, 1);
        sameFits("11 by 2", y, 0, 22, 50, 60, 1, 2);
        SackRace z = Check.told(lane + "2 - (wind = 1 and legs = 40);");
        z.note(0, 0, 0, 1);
        sameFits("one", z, 0, 1, 1, 1, 40, 40);
        SackRace w = Check.told(lane + "2 - (wind = 60 and legs = 1 or wind = 3 and legs = 20);");
        w.note(0, 0, 0, 1);
        sameFits("two", w, 0, 2, 3, 60, 1, 20);
        SackRace v = Check.told(lane + "2 - (wind = 5 and legs = 7 or wind = 3 and legs = 20 or wind = 4 and legs = 2);");
        v.note(0, 0, 0, 1);
        sameFits("three", v, 0, 3, 3, 5, 2, 20);
        Check.sentence("FITS: (at first; WIND at most)");
        SackRace u = Check.told("lane a 2 0;man m 9 9 9;hold h 0 0 0;plan p h 1;law cost 0 - 5;law time 1 + (wind > 20);");
        u.note(0, 0, 0, 2);
        sameFits("never above what he began with", u, 0, 800, 1, 20, 1, 40);
    }

    private static void outByThen() {
        Check.sentence("FITS: (who is OUT by then has none)");
        SackRace x = Check.told("lane a 1 1;lane b 1 1;lane c 1 1;man m 9 9 9;hold h 0 0 0;plan p h 1;law ache 4;law time 5;");
        int[] legsAtLeast = {5, 9, 13};
        for (int i = 0; i < 3; i++) {
            x.note(0, 0, i, 5 * (i + 1));
            sameFits("done by " + i, x, 0, 60 * (41 - legsAtLeast[i]), 1, 60, legsAtLeast[i], 40);
        }
        Check.sentence("FITS: behind the STRETCH he may be OUT");
        x.known(1);
        sameFits("known by 1", x, 0, 60 * 36, 1, 60, 5, 40);
        x.known(0);
        sameFits("known by 0", x, 0, 2400, 1, 60, 1, 40);
        x.known(2);
        sameFits("known by 2", x, 0, 60 * 32, 1, 60, 9, 40);
    }

    private static void laterSplits() {
        Check.sentence("FITS: all KNOWN SPLITS of his are so");
        int[][] splits = {{0, 1, 0}, {1, 0, 0}, {2, 2, 0}};
        SackRace x = Check.told(LANE);
        SackRace of = Check.told(LANE);
        for (int[] split : splits) {
            split[2] = of.split(0, split[0], split[1]);
        }
        int[][] some = {};
        for (int n = 0; n <= 3; n++) {
            sameFits(n + " SPLITS", x, 0, counted(LANE, "man m 6 10 9", some, 8, false));
            if (n < 3) {
                x.note(0, splits[n][0], splits[n][1], splits[n][2]);
                some = java.util.Arrays.copyOf(splits, n + 1);
            }
        }
        int[][] odd = {{0, 1, splits[0][2] + 1}};
        SackRace y = Check.told(LANE);
        y.note(0, 0, 1, splits[0][2] + 1);
        sameFits("another time", y, 0, counted(LANE, "man m 6 10 9", odd, 8, false));
    }

    private static void plansApart() {
        Check.sentence("FITS: by a PLAN: another one has its own HOLD and paces");
        for (int plan = 0; plan < 3; plan++) {
            for (int stretch = 0; stretch < 3; stretch++) {
                SackRace x = Check.told(LANE);
                int tenths = x.split(0, plan, stretch);
                if (tenths >= 0) {
                    x.note(0, plan, stretch, tenths);
                    int[][] one = {{plan, stretch, tenths}};
                    sameFits("plan " + plan + ", stretch " + stretch, x, 0, counted(LANE, "man m 6 10 9", one, 8, false));
                }
            }
        }
        Check.sentence("FITS: a PLAN without SPLITS doesn't matter");
        SackRace y = Check.told("lane a 1 0;man m 9 9 9;hold h 0 0 0;plan p h 1;plan q h 5;law ache (pace = 1) * 20;law time pace;");
        y.note(0, 1, 0, 5);
        Check.due("OUT by the other PLAN", y.fits(0, 0), 2400);
        y.note(0, 0, 0, 1);
        Check.due("now it matters", y.fits(0, 3), 21);
    }

    private static void ofHis() {
        Check.sentence("FITS of a MAN: SPLITS of his");
        SackRace x = Check.told(LANE);
        x.note(0, 0, 0, 99999);
        Check.due("his", x.fits(0, 0), 0);
        Check.due("another one's", x.fits(1, 0), 2400);
        x.strike(0);
        x.note(1, 0, 0, 99999);
        Check.due("his", x.fits(0, 0), 2400);
        Check.due("another one's", x.fits(1, 0), 0);
        Check.sentence("FITS of a MAN: with his WEIGHT");
        SackRace y = Check.told("lane a 1 0;man m 9 9 9;man n 9 9 25;hold h 0 0 0;plan p h 1;law time weight;");
        y.note(0, 0, 0, 9);
        y.note(1, 0, 0, 9);
        Check.due("9 heavy", y.fits(0, 0), 2400);
        Check.due("25 heavy", y.fits(1, 0), 0);
        Check.due("9 heavy", y.fits(0, 0), 2400);
    }

    private static void twice() {
        Check.sentence("FITS: the same SPLIT twice, and one at odds with it");
        SackRace x = Check.told("lane a 1 0;man m 9 9 9;hold h 0 0 0;plan p h 1;law time 5;");
        x.note(0, 0, 0, 5);
        x.note(0, 0, 0, 5);
        Check.due("twice", x.fits(0, 0), 2400);
        x.note(0, 0, 0, 6);
        Check.due("at odds", x.fits(0, 0), 0);
        x.note(0, 0, 0, 5);
        Check.due("still at odds", x.fits(0, 0), 0);
        x.strike(2);
        Check.due("no more", x.fits(0, 0), 2400);
    }

    private static void asNow() {
        Check.sentence("FITS: with the SACK and rain as now");
        String lane = "lane a 2 0;lane b 1 3 wet;man m 6 10 9;hold h 0 0 0;plan p h 5;law time 3 + heavy / 3 + damp + (wind < 4);";
        SackRace x = Check.told(lane);
        x.note(0, 0, 0, 12);
        x.note(0, 0, 1, 19);
        int[][] both = {{0, 0, 12}, {0, 1, 19}};
        for (int sack : new int[] {8, 9, 6, 7, 30}) {
            for (int rain = 0; rain <= 1; rain++) {
                x.sack(sack);
                x.rain(rain == 1);
                sameFits("SACK " + sack + ", rain " + rain, x, 0, counted(lane, "man m 6 10 9", both, sack, rain == 1));
            }
        }
    }

    private static void nextText() {
        Check.sentence("text: no SPLITS, all KNOWN");
        SackRace x = Check.told(LANE);
        x.note(0, 0, 0, 99999);
        x.known(0);
        Check.tell(x, LANE);
        Check.due("count(6)", x.count(6), 0);
        Check.due("count(7)", x.count(7), 0);
        Check.due("fits", x.fits(0, 0), 2400);
        Check.due("strike(0)", x.strike(0), -1);
        Check.due("the first one", x.note(0, 0, 0, 99998), 0);
        Check.due("KNOWN", x.fits(0, 0), 0);
        Check.tell(x, "man m 9 9 9;");
        Check.due("fits", x.fits(0, 0), 2400);
    }

    private static void noOnes() {
        Check.sentence("fits: NONE: no such ones");
        SackRace x = Check.told(LANE);
        for (int none : new int[] {2, 5, -1, Integer.MAX_VALUE, Integer.MIN_VALUE}) {
            Check.due("man " + none, x.fits(none, 0), -1);
        }
        for (int none : new int[] {5, 6, -1, Integer.MAX_VALUE, Integer.MIN_VALUE}) {
            Check.due("what " + none, x.fits(0, none), -1);
        }
        x.note(0, 0, 0, 99999);
        Check.due("none fit, what 5", x.fits(0, 5), -1);
    }
}
