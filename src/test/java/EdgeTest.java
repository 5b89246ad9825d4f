import java.util.NoSuchElementException;
import java.util.Random;

/** No call throws but look(), whatever it is asked, in whatever state the object is. */
public final class EdgeTest {
    private static final int[] EDGES = {Integer.MIN_VALUE, Integer.MIN_VALUE + 1, -1000, -999, -100, -33, -32, -31, -3,
        -2, -1, 0, 1, 2, 3, 4, 5, 6, 7, 8, 9, 10, 19, 20, 23, 24, 25, 30, 31, 32, 33, 63, 64, 100, 119, 120, 121, 700,
        Integer.MAX_VALUE - 1, Integer.MAX_VALUE};

    private static final String[] TEXTS = {
        "",
        "lane a 20 9 bend wet;lane b 20 0;lane c 20 9;lane d 20 1 bend;lane e 20 2 wet;lane f 20 0;man a 60 40 30;"
            + "man b 1 1 1;man c 60 1 1;man d 1 40 9;man e 30 20 15;hold a 9 99 99;hold b 0 0 0;hold c 1 1 1;"
            + "plan a a 9 8 7 6 5 4;plan b b 1;plan c c 5;plan d a 9;plan e b 2 3;judge a 0 100;judge b 100 0;"
            + "judge c 50 50;judge d 99 1;load 30;seed 99999;law time pace * wind - legs;law cost slope / (legs - 20);"
            + "law ache (wind = 0) + curve * damp;law gain heavy * 9;law tire wind - legs;law harm heavy;law jam weight;",
        "lane a 1 0;man m 60 40 1;hold h 0 0 0;plan p h 9;",
        "man m 1 1 1;hold h 0 0 0;plan p h 1;",
        "judge a 3 4;load 0;"};

    private static final Random RANDOM = new Random(4);

    public static void main(String[] args) {
        for (int round = 0; round < 60; round++) {
            SackRace x = Check.told(TEXTS[round % TEXTS.length]);
            for (int i = 0; i < 400; i++) {
                ask(x);
            }
        }
        Check.finish("EdgeTest");
    }

    private static int any() {
        return RANDOM.nextInt(3) > 0 ? RANDOM.nextInt(6) : EDGES[RANDOM.nextInt(EDGES.length)];
    }

    private static void ask(SackRace x) {
        int call = RANDOM.nextInt(43);
        int a = any();
        int b = any();
        int c = any();
        int d = any();
        String asked = "call " + call + " of " + a + ", " + b + ", " + c + ", " + d;
        try {
            answer(x, call, a, b, c, d);
            Check.due(asked, 0, 0);
        } catch (IndexOutOfBoundsException e) {
            Check.due(asked + " threw " + e, call == 4 && e.getClass() == IndexOutOfBoundsException.class, true);
        } catch (NoSuchElementException e) {
            Check.due(asked + " threw " + e, call, 4);
        } catch (RuntimeException e) {
            Check.due(asked + " threw " + e, 1, 0);
        }
    }

    private static long answer(SackRace x, int call, int a, int b, int c, int d) {
        switch (call) {
            case 0: return x.feed(a, b, c, d, a);
            case 1: return x.text(a > 0 ? -1 : a);
            case 2: return x.fault(a);
            case 3: return x.named(a, b);
            case 4: return x.look(a, b);
            case 5: return x.pace(a, b);
            case 6: return x.law(a, b, c, d);
            case 7: return x.run(a, b, c);
            case 8: return x.split(a, b, c);
            case 9: return x.race(a, b) ? 1 : 0;
            case 10: return x.go(a);
            case 11: return x.now(a);
            case 12: return x.paced(a) ? 1 : 0;
            case 13: return x.shift(a);
            case 14: return x.undo();
            case 15: return x.sack(a) ? 1 : 0;
            case 16: return x.rain(a > 2);
            case 17: return x.best(a, b);
            case 18: return x.paces(a, b, c);
            case 19: return x.quick(a, b, c);
            case 20: return x.safe(a, b, c, d);
            case 21: return x.held(a, b);
            case 22: return x.weighed(a, b, c, d);
            case 23: return x.flat(a, b);
            case 24: return x.alike(a, b, c);
            case 25: return x.trained(a, b, c, d);
            case 26: return x.note(a, b, c, d);
            case 27: return x.strike(a);
            case 28: return x.known(a) ? 1 : 0;
            case 29: return x.fits(a, b);
            case 30: return x.wins(a, b, c, d);
            case 31: return x.beats(a, b, c, d);
            case 32: return x.led(a, b, c, d);
            case 33: return x.rests(a, b);
            case 34: return x.rest(a, b, c);
            case 35: return x.corner(a, b, c);
            case 36: return x.down(a, b, c, d);
            case 37: return x.errors(a, b);
            case 38: return x.rule();
            case 39: return x.keep();
            case 40: return x.back();
            default: return x.count(a);
        }
    }
}
