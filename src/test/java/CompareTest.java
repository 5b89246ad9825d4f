import java.util.Random;

/** Many texts and calls by chance (always the same ones): the class must answer as Naive does. */
public final class CompareTest {
    private static final int[] EDGES = {Integer.MIN_VALUE, Integer.MAX_VALUE, -3, -2, -1, 0, 1, 2, 3, 4, 5, 6, 9, 10,
        11, 23, 24, 31, 32, 63, 64, 99, 100, 101, 120, 121, 999, 1000, 9999, 10000, 99999, 100000};

    private final Random random;
    private final SackRace x = new SackRace();
    private final Naive y = new Naive();
    private final StringBuilder log = new StringBuilder();
    private int calls = 0;

    private CompareTest(long seed) {
        random = new Random(seed);
    }

    public static void main(String[] args) {
        int runs = args.length > 0 ? Integer.parseInt(args[0]) : 220;
        for (int i = 0; i < runs; i++) {
            new CompareTest(i).run(i);
        }
        Check.finish("CompareTest");
    }

    private int below(int n) {
        return random.nextInt(n);
    }

    private int small() {
        return below(12) == 0 ? EDGES[below(EDGES.length)] : below(3);
    }

    private int any(int low, int high) {
        return below(10) == 0 ? EDGES[below(EDGES.length)] : low + below(high - low + 1);
    }

    private void run(int seed) {
        for (int round = 0; round < 3; round++) {
            String text = randomText();
            if (below(3) == 0) {
                text = spoilt(text);
            }
            tell(text);
            if (y.t.lanes.isEmpty() && below(4) > 0) {
                continue;
            }
            for (int i = 0; i < 60 && calls < 512; i++) {
                call(seed);
            }
        }
    }

    private void tell(String text) {
        log.append("\n").append(text).append("\n");
        if (y.tape.length() > 0) {
            y.text(0);
            x.text(0);
        }
        for (int i = 0; i < text.length(); i += 20) {
            int[] w = new int[5];
            for (int k = 0; k < 5; k++) {
                w[k] = Check.word(text, i + 4 * k);
            }
            same("feed", x.feed(w[0], w[1], w[2], w[3], w[4]), y.feed(w[0], w[1], w[2], w[3], w[4]));
        }
        int n = Math.min(text.length(), 700);
        same("text(" + n + ")", x.text(n), y.text(n));
        for (int i = 0; i < 2; i++) {
            same("fault(" + i + ")", x.fault(i), y.fault(i));
        }
        for (int i = 0; i <= 11; i++) {
            same("count(" + i + ")", x.count(i), y.count(i));
        }
    }

    private void same(String call, long got, long want) {
        calls++;
        if (got != want) {
            Check.due(call + " behind" + log + "\n", got, want);
        } else {
            Check.due(call, got, want);
        }
        log.append(call).append(" ");
    }

    private String randomText() {
        StringBuilder s = new StringBuilder();
        int lanes = below(8) == 0 ? 0 : 1 + below(3);
        for (int i = 0; i < lanes; i++) {
            s.append("lane ").append((char) ('a' + i)).append(" ").append(1 + below(4)).append(" ").append(below(10))
                .append(below(2) == 0 ? " bend" : "").append(below(3) == 0 ? " wet" : "").append(";");
        }
        int men = 1 + below(3);
        for (int i = 0; i < men; i++) {
            s.append("man m").append((char) ('a' + i)).append(" ").append(1 + below(below(2) == 0 ? 60 : 12))
                .append(" ").append(1 + below(40)).append(" ").append(1 + below(30)).append(";");
        }
        int holds = 1 + below(2);
        for (int i = 0; i < holds; i++) {
            s.append("hold h").append((char) ('a' + i)).append(" ").append(below(4)).append(" ").append(below(100))
                .append(" ").append(below(9)).append(";\n");
        }
        int plans = 1 + below(2);
        for (int i = 0; i < plans; i++) {
            s.append("plan p").append((char) ('a' + i)).append(" h").append((char) ('a' + below(holds)));
            int paces = 1 + below(4);
            for (int k = 0; k < paces; k++) {
                s.append(" ").append(1 + below(9));
            }
            s.append(";");
        }
        int judges = below(5);
        for (int i = 0; i < judges; i++) {
            s.append("judge j").append((char) ('a' + i)).append(" ").append(chance()).append(" ").append(chance())
                .append(";");
        }
        if (below(2) == 0) {
            s.append("load ").append(below(31)).append(";");
        }
        if (below(2) == 0) {
            s.append("seed ").append(below(100000)).append(";");
        }
        String[] kinds = {"time", "cost", "ache", "gain", "tire", "harm", "jam", "wide"};
        for (String kind : kinds) {
            if (below(5) < 2) {
                s.append("law ").append(kind).append(" ").append(law(kind)).append(";");
            }
        }
        return s.toString();
    }

    private int chance() {
        return below(6) == 0 ? 100 * below(2) : below(101);
    }

    private String law(String kind) {
        if (below(3) == 0) {
            return expression(3);
        }
        switch (kind) {
            case "time": return "12 - pace + heavy / 4 + damp * 2 - wind / 9";
            case "cost": return "pace + slope - 5 + (legs < 5) + weight / 20";
            case "ache": return "slope / 3 + (pace > 6) * curve";
            case "gain": return "heavy * 3 - legs / 2 + weight / 9";
            case "tire": return "heavy * 2 - 1 - (wind > 9)";
            case "harm": return "heavy * heavy * (pace + 1) / 2";
            case "jam": return "heavy - weight / 3 + damp";
            default: return "weight / 2 + wind / 10 + slope - legs / 8";
        }
    }

    private String expression(int depth) {
        switch (depth == 0 ? below(2) : below(7)) {
            case 0: return String.valueOf(below(6) == 0 ? below(10000) : below(12));
            case 1: return new String[] {"pace", "slope", "heavy", "weight", "wind", "legs", "damp", "curve"}[below(8)];
            case 2: return "not " + expression(depth - 1);
            case 3: return "(" + expression(depth - 1) + ")";
            default:
                String[] signs = {"+", "-", "*", "/", "+", "-", "*", "/", "<", "<=", "=", "<>", ">=", ">", " and ",
                    " or "};
                return expression(depth - 1) + signs[below(signs.length)] + expression(depth - 1);
        }
    }

    /** One thing in the text is another one. */
    private String spoilt(String text) {
        String[] bits = {";", " ", "(", ")", "<", "=", ">", "not ", "and ", "or ", "9", "0", "31", "lane ", "man ",
            "hold ", "plan ", "judge ", "load 1;", "seed 1;", "law time 1;", "bend", "wet", "x", "lane a 1 1;", "!",
            "toolong ", "pace", "\n", "+", "-", "hold hz 1 1 1;", "plan pz ha 1 2 3 4 5 6;", "plan py ha 1 1 1 1 1 1 1;"};
        int at = below(text.length() + 1);
        int cut = Math.min(text.length(), at + below(3));
        return text.substring(0, at) + bits[below(bits.length)] + text.substring(cut);
    }

    private void call(int seed) {
        int a = small();
        int b = small();
        int c = small();
        int d = any(0, 3);
        switch (below(44)) {
            case 0: {
                int got;
                int thrown = Check.lookThrows(x, a, d);
                got = thrown == 0 ? x.look(a, d) : -100 - thrown;
                same("look(" + a + ", " + d + ")", got, y.look(a, d));
                break;
            }
            case 1: same("pace(" + a + ", " + (b - 1) + ")", x.pace(a, b - 1), y.pace(a, b - 1)); break;
            case 2:
            case 3: {
                int p = any(1, 9);
                same("law(" + d + ", " + a + ", " + b + ", " + p + ")", x.law(d, a, b, p), y.law(d, a, b, p));
                break;
            }
            case 4: same("run(" + a + ", " + b + ", " + d + ")", x.run(a, b, d), y.run(a, b, d)); break;
            case 5: same("split(" + a + ", " + b + ", " + c + ")", x.split(a, b, c), y.split(a, b, c)); break;
            case 6: {
                int n = any(0, 12);
                same("led(" + a + ", " + b + ", " + n + ", " + d + ")", x.led(a, b, n, d), y.led(a, b, n, d));
                break;
            }
            case 7: same("race(" + a + ", " + b + ")", x.race(a, b) ? 1 : 0, y.race(a, b) ? 1 : 0); break;
            case 8:
            case 9:
            case 10: {
                int n = any(0, 4);
                same("go(" + n + ")", x.go(n), y.go(n));
                break;
            }
            case 11:
            case 12:
                for (int i = -1; i <= 8; i++) {
                    same("now(" + i + ")", x.now(i), y.now(i));
                }
                break;
            case 13: {
                int p = any(0, 9);
                same("paced(" + p + ")", x.paced(p) ? 1 : 0, y.paced(p) ? 1 : 0);
                break;
            }
            case 14: same("shift(" + a + ")", x.shift(a), y.shift(a)); break;
            case 15:
            case 16: same("undo()", x.undo(), y.undo()); break;
            case 17: {
                int n = any(0, 30);
                same("sack(" + n + ")", x.sack(n) ? 1 : 0, y.sack(n) ? 1 : 0);
                break;
            }
            case 18: {
                boolean is = below(2) == 0;
                same("rain(" + is + ")", x.rain(is), y.rain(is));
                break;
            }
            case 19: same("best(" + a + ", " + b + ")", x.best(a, b), y.best(a, b)); break;
            case 20: same("paces(" + a + ", " + b + ", " + c + ")", x.paces(a, b, c), y.paces(a, b, c)); break;
            case 21: {
                int p = any(1, 9);
                same("quick(" + a + ", " + b + ", " + p + ")", x.quick(a, b, p), y.quick(a, b, p));
                break;
            }
            case 22: {
                int w = any(1, 12);
                same("safe(" + a + ", " + b + ", " + w + ", " + c + ")", x.safe(a, b, w, c), y.safe(a, b, w, c));
                break;
            }
            case 23: same("held(" + a + ", " + b + ")", x.held(a, b), y.held(a, b)); break;
            case 24: {
                int n = any(0, 3);
                same("weighed(" + a + ", " + b + ", " + n + ", " + c + ")", x.weighed(a, b, n, c), y.weighed(a, b, n, c));
                break;
            }
            case 25: same("flat(" + a + ", " + b + ")", x.flat(a, b), y.flat(a, b)); break;
            case 26: {
                if (below(4) == 0) {
                    int n = any(0, 60);
                    same("alike(" + a + ", " + b + ", " + n + ")", x.alike(a, b, n), y.alike(a, b, n));
                }
                break;
            }
            case 27: {
                int n = any(1, 4);
                int h = any(0, 40);
                same("trained(" + a + ", " + n + ", " + h + ", " + d + ")", x.trained(a, n, h, d), y.trained(a, n, h, d));
                break;
            }
            case 28:
            case 29: {
                int n = below(3) == 0 ? any(0, 40) : y.split(a, b, c);
                same("note(" + a + ", " + b + ", " + c + ", " + n + ")", x.note(a, b, c, n), y.note(a, b, c, n));
                break;
            }
            case 30: {
                int n = any(0, 5);
                same("strike(" + n + ")", x.strike(n), y.strike(n));
                break;
            }
            case 31: {
                int n = any(-1, 5);
                same("known(" + n + ")", x.known(n) ? 1 : 0, y.known(n) ? 1 : 0);
                break;
            }
            case 32:
                for (int i = -1; i <= 5; i++) {
                    same("fits(" + a + ", " + i + ")", x.fits(a, i), y.fits(a, i));
                }
                break;
            case 33: {
                int m = any(1, 7);
                int s = below(4) == 0 ? EDGES[below(EDGES.length)] : below(1000000);
                same("wins(" + s + ", " + m + ", " + b + ", " + c + ")", x.wins(s, m, b, c), y.wins(s, m, b, c));
                break;
            }
            case 34: {
                int s = below(4) == 0 ? EDGES[below(EDGES.length)] : below(1000000);
                int n = any(0, 80);
                same("beats(" + s + ", " + a + ", " + b + ", " + n + ")", x.beats(s, a, b, n), y.beats(s, a, b, n));
                break;
            }
            case 35: {
                int m = any(0, 7);
                same("rests(" + m + ", " + a + ")", x.rests(m, a), y.rests(m, a));
                break;
            }
            case 36: {
                int m = any(0, 7);
                same("rest(" + m + ", " + a + ", " + b + ")", x.rest(m, a, b), y.rest(m, a, b));
                break;
            }
            case 37: {
                int m = any(0, 7);
                same("corner(" + m + ", " + a + ", " + b + ")", x.corner(m, a, b), y.corner(m, a, b));
                break;
            }
            case 38: {
                int h = any(0, 100);
                int m = any(0, 15);
                int s = below(3) == 0 ? any(0, 15) : m & below(16);
                same("down(" + h + ", " + m + ", " + s + ", " + a + ")", x.down(h, m, s, a), y.down(h, m, s, a));
                break;
            }
            case 39: {
                int k = any(0, 6);
                same("errors(" + k + ", " + a + ")", x.errors(k, a), y.errors(k, a));
                break;
            }
            case 40: same("rule()", x.rule(), y.rule()); break;
            case 41: same("keep()", x.keep(), y.keep()); break;
            case 42: same("back()", x.back(), y.back()); break;
            default:
                for (int i = 6; i <= 9; i++) {
                    same("count(" + i + ")", x.count(i), y.count(i));
                }
                break;
        }
    }
}
