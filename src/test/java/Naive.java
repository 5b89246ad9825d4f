import java.math.BigInteger;
import java.util.ArrayList;
import java.util.HashMap;
import java.util.List;
import java.util.Map;
import java.util.Set;

/** The document once more, as plainly and slowly as can be, to compare the class with. */
final class Naive {
    static final class Fault extends RuntimeException {
        final int kind;
        final int place;

        Fault(int kind, int place) {
            this.kind = kind;
            this.place = place;
        }
    }

    interface Node {
        /** null: an ERROR. */
        BigInteger worth(Map<String, Integer> names);
    }

    static final class Row {
        String name;
        int[] n = new int[3];
        boolean bend;
        boolean wet;
        int hold;
        List<Integer> paces = new ArrayList<>();
    }

    static final class State {
        int wind;
        int legs;
        int tenths;
        int steps;
        int slips;
        int hold;
        int paced;
        int man;
        int plan;
        boolean out;

        State copy() {
            State s = new State();
            s.wind = wind;
            s.legs = legs;
            s.tenths = tenths;
            s.steps = steps;
            s.slips = slips;
            s.hold = hold;
            s.paced = paced;
            s.man = man;
            s.plan = plan;
            s.out = out;
            return s;
        }
    }

    static final class Text {
        List<Row> lanes = new ArrayList<>();
        List<Row> men = new ArrayList<>();
        List<Row> holds = new ArrayList<>();
        List<Row> plans = new ArrayList<>();
        List<Row> judges = new ArrayList<>();
        Map<String, Node> laws = new HashMap<>();
        Integer load;
        Integer seed;
        int knots;
        int lines;
    }

    private static final Set<String> KINDS = Set.of("time", "cost", "ache", "gain", "tire", "harm", "jam", "wide");
    private static final Set<String> NAMES =
        Set.of("pace", "slope", "heavy", "weight", "wind", "legs", "damp", "curve");
    private static final Set<String> OTHERS = Set.of("lane", "man", "hold", "plan", "judge", "load", "seed", "law",
        "bend", "wet", "or", "and", "not");

    private String source = "";
    private List<String> tokens = new ArrayList<>();
    private List<Integer> places = new ArrayList<>();
    private int at;
    private int open;
    private Text reading;

    Text t = new Text();
    String tape = "";
    int fault = 0;
    int place = -1;
    int sack = 8;
    boolean rain;
    State race;
    long last;
    List<Object[]> past = new ArrayList<>();
    Object[] image;
    List<int[]> splits = new ArrayList<>();
    int known = -1;

    // ---- the text

    private void lex() {
        tokens.clear();
        places.clear();
        int i = 0;
        while (i < source.length()) {
            char c = source.charAt(i);
            int from = i;
            if (c == 10 || c == 32) {
                i++;
                continue;
            }
            if (c >= 'a' && c <= 'z') {
                while (i < source.length() && source.charAt(i) >= 'a' && source.charAt(i) <= 'z') {
                    i++;
                }
            } else if (c >= '0' && c <= '9') {
                while (i < source.length() && source.charAt(i) >= '0' && source.charAt(i) <= '9') {
                    i++;
                }
            } else if (source.startsWith("<=", i) || source.startsWith(">=", i) || source.startsWith("<>", i)) {
                i += 2;
            } else {
                i++;
            }
            tokens.add(source.substring(from, i));
            places.add(from);
        }
        tokens.add("");
        places.add(source.length());
    }

    private String peek() {
        return tokens.get(at);
    }

    private int here() {
        return places.get(at);
    }

    private Fault bad(int kind) {
        return new Fault(kind, here());
    }

    private boolean is(String s) {
        return peek().equals(s);
    }

    private void must(String s) {
        if (!is(s)) {
            throw bad(1);
        }
        at++;
    }

    private static boolean ofLanguage(String s) {
        return KINDS.contains(s) || NAMES.contains(s) || OTHERS.contains(s);
    }

    private String name() {
        if (!peek().matches("[a-z]{1,6}") || ofLanguage(peek())) {
            throw bad(1);
        }
        return peek();
    }

    private int number(int low, int high) {
        if (!peek().matches("[0-9]+")) {
            throw bad(1);
        }
        BigInteger v = new BigInteger(peek());
        if (v.compareTo(BigInteger.valueOf(low)) < 0 || v.compareTo(BigInteger.valueOf(high)) > 0) {
            throw bad(2);
        }
        at++;
        return v.intValue();
    }

    private Row row(List<Row> rows, int most, int[] limits) {
        if (rows.size() >= most) {
            throw bad(2);
        }
        at++;
        Row row = new Row();
        row.name = name();
        for (Row r : rows) {
            if (r.name.equals(row.name)) {
                throw bad(3);
            }
        }
        at++;
        for (int i = 0; i < limits.length; i += 2) {
            row.n[i / 2] = number(limits[i], limits[i + 1]);
        }
        return row;
    }

    private void line() {
        Text r = reading;
        switch (peek()) {
            case "lane": {
                Row row = row(r.lanes, 6, new int[] {1, 20, 0, 9});
                if (is("bend")) {
                    row.bend = true;
                    at++;
                }
                if (is("wet")) {
                    row.wet = true;
                    at++;
                }
                must(";");
                r.lanes.add(row);
                break;
            }
            case "man": {
                Row row = row(r.men, 5, new int[] {1, 60, 1, 40, 1, 30});
                must(";");
                r.men.add(row);
                break;
            }
            case "hold": {
                Row row = row(r.holds, 3, new int[] {0, 9, 0, 99, 0, 99});
                must(";");
                r.holds.add(row);
                break;
            }
            case "judge": {
                Row row = row(r.judges, 4, new int[] {0, 100, 0, 100});
                must(";");
                r.judges.add(row);
                break;
            }
            case "plan": {
                Row row = row(r.plans, 5, new int[] {});
                String hold = name();
                row.hold = find(r.holds, hold);
                if (row.hold < 0) {
                    throw bad(4);
                }
                at++;
                row.paces.add(number(1, 9));
                while (peek().matches("[0-9]+")) {
                    if (row.paces.size() == 6) {
                        throw bad(2);
                    }
                    row.paces.add(number(1, 9));
                }
                must(";");
                r.plans.add(row);
                break;
            }
            case "load":
                if (r.load != null) {
                    throw bad(3);
                }
                at++;
                r.load = number(0, 30);
                must(";");
                break;
            case "seed":
                if (r.seed != null) {
                    throw bad(3);
                }
                at++;
                r.seed = number(0, 99999);
                must(";");
                break;
            case "law": {
                at++;
                String kind = peek();
                if (!KINDS.contains(kind)) {
                    throw bad(1);
                }
                if (r.laws.containsKey(kind)) {
                    throw bad(3);
                }
                at++;
                open = 0;
                Node e = either();
                must(";");
                r.laws.put(kind, e);
                break;
            }
            default:
                throw bad(1);
        }
        r.lines++;
    }

    private static int find(List<Row> rows, String name) {
        for (int i = 0; i < rows.size(); i++) {
            if (rows.get(i).name.equals(name)) {
                return i;
            }
        }
        return -1;
    }

    private void knot() {
        if (reading.knots == 64) {
            throw bad(2);
        }
        reading.knots++;
    }

    private Node either() {
        Node left = both();
        while (is("or")) {
            knot();
            at++;
            left = join("or", left, both());
        }
        return left;
    }

    private Node both() {
        Node left = negated();
        while (is("and")) {
            knot();
            at++;
            left = join("and", left, negated());
        }
        return left;
    }

    private Node negated() {
        if (is("not")) {
            knot();
            at++;
            Node of = negated();
            return names -> {
                BigInteger v = of.worth(names);
                return v == null ? null : v.signum() == 0 ? BigInteger.ONE : BigInteger.ZERO;
            };
        }
        return compared();
    }

    private Node compared() {
        Node left = sum();
        String s = peek();
        if (Set.of("<", "<=", "=", "<>", ">=", ">").contains(s)) {
            knot();
            at++;
            left = join(s, left, sum());
        }
        return left;
    }

    private Node sum() {
        Node left = product();
        while (is("+") || is("-")) {
            String s = peek();
            knot();
            at++;
            left = join(s, left, product());
        }
        return left;
    }

    private Node product() {
        Node left = part();
        while (is("*") || is("/")) {
            String s = peek();
            knot();
            at++;
            left = join(s, left, part());
        }
        return left;
    }

    private Node part() {
        if (is("(")) {
            if (open == 8) {
                throw bad(2);
            }
            open++;
            at++;
            Node inside = either();
            must(")");
            open--;
            return inside;
        }
        String s = peek();
        if (NAMES.contains(s)) {
            knot();
            at++;
            return names -> BigInteger.valueOf(names.get(s));
        }
        if (!s.matches("[0-9]+")) {
            throw bad(1);
        }
        knot();
        BigInteger v = BigInteger.valueOf(number(0, 9999));
        return names -> v;
    }

    private static Node join(String sign, Node left, Node right) {
        return names -> {
            BigInteger a = left.worth(names);
            BigInteger b = right.worth(names);
            if (a == null || b == null) {
                return null;
            }
            int c = a.compareTo(b);
            BigInteger v;
            switch (sign) {
                case "or": v = bit(a.signum() != 0 || b.signum() != 0); break;
                case "and": v = bit(a.signum() != 0 && b.signum() != 0); break;
                case "<": v = bit(c < 0); break;
                case "<=": v = bit(c <= 0); break;
                case "=": v = bit(c == 0); break;
                case "<>": v = bit(c != 0); break;
                case ">=": v = bit(c >= 0); break;
                case ">": v = bit(c > 0); break;
                case "+": v = a.add(b); break;
                case "-": v = a.subtract(b); break;
                case "*": v = a.multiply(b); break;
                default: v = b.signum() == 0 ? null : a.divide(b); break;
            }
            return v == null || v.abs().compareTo(BigInteger.TEN.pow(12)) > 0 ? null : v;
        };
    }

    private static BigInteger bit(boolean is) {
        return is ? BigInteger.ONE : BigInteger.ZERO;
    }

    int feed(int a, int b, int c, int d, int e) {
        if (tape.length() + 20 > 700) {
            return -1;
        }
        for (int v : new int[] {a, b, c, d, e}) {
            for (int i = 3; i >= 0; i--) {
                tape += (char) (v >>> 8 * i & 255);
            }
        }
        return tape.length();
    }

    int text(int n) {
        if (n < 0 || n > tape.length()) {
            return -2;
        }
        source = tape.substring(0, n);
        tape = "";
        lex();
        at = 0;
        reading = new Text();
        try {
            while (at < tokens.size() - 1) {
                line();
            }
        } catch (Fault f) {
            fault = f.kind;
            place = f.place;
            return -1;
        }
        fault = 0;
        place = -1;
        t = reading;
        sack = t.load == null ? 8 : t.load;
        last = t.seed == null ? 0 : t.seed;
        rain = false;
        race = null;
        past.clear();
        image = null;
        splits.clear();
        known = -1;
        return t.lines;
    }

    int fault(int what) {
        return what == 0 ? fault : what == 1 ? place : -1;
    }

    private static boolean in(List<?> list, int i) {
        return i >= 0 && i < list.size();
    }

    int named(int what, int letters) {
        List<List<Row>> all = List.of(t.lanes, t.men, t.holds, t.plans, t.judges);
        if (!in(all, what)) {
            return -1;
        }
        for (int i = 0; i < all.get(what).size(); i++) {
            if (Check.letters(all.get(what).get(i).name) == letters) {
                return i;
            }
        }
        return -1;
    }

    /** -101, -102 stand for the two exceptions. */
    int look(int stretch, int what) {
        if (!in(t.lanes, stretch)) {
            return -101;
        }
        Row r = t.lanes.get(stretch);
        switch (what) {
            case 0: return r.n[0];
            case 1: return r.n[1];
            case 2: return r.bend ? 1 : 0;
            case 3: return r.wet || rain ? 1 : 0;
            default: return -102;
        }
    }

    private int planPace(int plan, int stretch) {
        List<Integer> paces = t.plans.get(plan).paces;
        return paces.get(Math.min(stretch, paces.size() - 1));
    }

    int pace(int plan, int stretch) {
        if (!in(t.plans, plan)) {
            return -1;
        }
        if (stretch == -1) {
            return t.plans.get(plan).hold;
        }
        return in(t.lanes, stretch) ? planPace(plan, stretch) : -1;
    }

    // ---- steps

    private BigInteger law(String kind, Map<String, Integer> names) {
        Node law = t.laws.get(kind);
        return law == null ? null : law.worth(names);
    }

    private int bounded(String kind, Map<String, Integer> names, int low, int high, int without) {
        BigInteger v = law(kind, names);
        if (v == null) {
            return without;
        }
        return v.max(BigInteger.valueOf(low)).min(BigInteger.valueOf(high)).intValue();
    }

    private Map<String, Integer> names(int stretch, int pace, int heavy, int weight, int wind, int legs, boolean flat) {
        Row lane = t.lanes.get(stretch);
        Map<String, Integer> names = new HashMap<>();
        names.put("pace", pace);
        names.put("slope", flat ? 0 : lane.n[1]);
        names.put("heavy", heavy);
        names.put("weight", weight);
        names.put("wind", wind);
        names.put("legs", legs);
        names.put("damp", lane.wet || rain ? 1 : 0);
        names.put("curve", lane.bend ? 1 : 0);
        return names;
    }

    long law(int what, int man, int stretch, int pace) {
        if (what < 0 || what > 2 || !in(t.men, man) || !in(t.lanes, stretch) || pace < 1 || pace > 9) {
            return Long.MIN_VALUE;
        }
        Row m = t.men.get(man);
        BigInteger v = law(List.of("time", "cost", "ache").get(what),
            names(stretch, pace, sack, m.n[2], m.n[0], m.n[1], false));
        return v == null ? Long.MIN_VALUE : v.longValue();
    }

    private void stepAt(State s, int stretch, int asked, int top, int heavy, int weight, boolean flat) {
        int pace = s.wind == 0 ? 1 : asked;
        Map<String, Integer> names = names(stretch, pace, heavy, weight, s.wind, s.legs, flat);
        s.tenths += bounded("time", names, 1, 99, 10 - pace);
        int cost = bounded("cost", names, -20, 20, pace + names.get("slope") - 4) + t.holds.get(s.hold).n[0];
        s.wind = Math.min(top, Math.max(0, s.wind - cost));
        s.legs = Math.max(0, s.legs - bounded("ache", names, 0, 20, 0));
        s.steps++;
        s.out = s.legs == 0;
    }

    private int total() {
        int sum = 0;
        for (Row r : t.lanes) {
            sum += r.n[0];
        }
        return sum;
    }

    private int stretchOf(int step) {
        int sum = 0;
        for (int i = 0; i < t.lanes.size(); i++) {
            sum += t.lanes.get(i).n[0];
            if (step < sum) {
                return i;
            }
        }
        return t.lanes.size();
    }

    private State start(int man, int plan, int wind, int legs) {
        State s = new State();
        s.man = man;
        s.plan = plan;
        s.wind = wind;
        s.legs = legs;
        s.hold = t.plans.get(plan).hold;
        return s;
    }

    private State ran(int man, int plan, int steps, int wind, int legs) {
        State s = start(man, plan, wind, legs);
        while (s.steps < steps && !s.out) {
            int stretch = stretchOf(s.steps);
            stepAt(s, stretch, planPace(plan, stretch), wind, sack, t.men.get(man).n[2], false);
        }
        return s;
    }

    private State ran(int man, int plan, int steps) {
        return ran(man, plan, steps, t.men.get(man).n[0], t.men.get(man).n[1]);
    }

    private static int tell(State s, int what) {
        return s.out ? -2 : what == 0 ? s.tenths : what == 1 ? s.wind : s.legs;
    }

    int run(int man, int plan, int what) {
        if (!in(t.men, man) || !in(t.plans, plan) || what < 0 || what > 3) {
            return -1;
        }
        State s = ran(man, plan, total());
        return what == 3 ? s.steps : tell(s, what);
    }

    private int stepsBy(int stretch) {
        int sum = 0;
        for (int i = 0; i <= stretch; i++) {
            sum += t.lanes.get(i).n[0];
        }
        return sum;
    }

    int split(int man, int plan, int stretch) {
        if (!in(t.men, man) || !in(t.plans, plan) || !in(t.lanes, stretch)) {
            return -1;
        }
        return tell(ran(man, plan, stepsBy(stretch)), 0);
    }

    int led(int man, int plan, int n, int what) {
        if (!in(t.men, man) || !in(t.plans, plan) || n < 0 || n > total() || what < 0 || what > 2) {
            return -1;
        }
        return tell(ran(man, plan, n), what);
    }

    // ---- the race

    boolean race(int man, int plan) {
        if (!in(t.men, man) || !in(t.plans, plan)) {
            return false;
        }
        race = start(man, plan, t.men.get(man).n[0], t.men.get(man).n[1]);
        past.clear();
        return true;
    }

    private boolean going() {
        return race != null && !race.out && race.steps < total();
    }

    private long draw(long from) {
        return from * 1103515245L + 12345L & (1L << 31) - 1;
    }

    private void raceStep(State s) {
        int stretch = stretchOf(s.steps);
        Row man = t.men.get(s.man);
        stepAt(s, stretch, s.paced > 0 ? s.paced : planPace(s.plan, stretch), man.n[0], sack, man.n[2], false);
        last = draw(last);
        Row hold = t.holds.get(s.hold);
        if (last / 65536 % 100 < hold.n[1] + (t.lanes.get(stretch).wet || rain ? 10 : 0)) {
            s.slips++;
            s.tenths += hold.n[2];
        }
    }

    int go(int n) {
        if (race == null || n < 0 || n > 120) {
            return -1;
        }
        int went = 0;
        while (went < n && going()) {
            past.add(new Object[] {race.copy(), last});
            if (past.size() > 20) {
                past.remove(0);
            }
            raceStep(race);
            went++;
        }
        return went;
    }

    int now(int what) {
        if (race == null) {
            return -1;
        }
        switch (what) {
            case 0: return race.steps;
            case 1: return race.tenths;
            case 2: return race.wind;
            case 3: return race.legs;
            case 4: return race.slips;
            case 5: return race.out ? 2 : going() ? 0 : 1;
            case 6:
                return !going() ? 0 : race.wind == 0 ? 1 : race.paced > 0 ? race.paced
                    : planPace(race.plan, stretchOf(race.steps));
            case 7: return race.hold;
            default: return -1;
        }
    }

    boolean paced(int pace) {
        if (!going() || pace < 0 || pace > 9) {
            return false;
        }
        race.paced = pace;
        return true;
    }

    int shift(int hold) {
        if (!going() || !in(t.holds, hold) || hold == race.hold) {
            return -1;
        }
        race.hold = hold;
        race.tenths += t.holds.get(hold).n[2];
        return t.holds.get(hold).n[2];
    }

    int undo() {
        if (past.isEmpty()) {
            return -1;
        }
        Object[] was = past.remove(past.size() - 1);
        race = (State) was[0];
        last = (Long) was[1];
        return past.size();
    }

    boolean sack(int n) {
        if (n < 0 || n > 30) {
            return false;
        }
        sack = n;
        return true;
    }

    int rain(boolean is) {
        rain = is;
        int wet = 0;
        for (int i = 0; i < t.lanes.size(); i++) {
            wet += look(i, 3);
        }
        return wet;
    }

    int keep() {
        image = new Object[] {race == null ? null : race.copy(), last, sack, rain};
        return race == null ? -2 : race.steps;
    }

    int back() {
        if (image == null) {
            return -1;
        }
        race = image[0] == null ? null : ((State) image[0]).copy();
        last = (Long) image[1];
        sack = (Integer) image[2];
        rain = (Boolean) image[3];
        past.clear();
        return race == null ? -2 : race.steps;
    }

    // ---- best

    /** {tenths, paces ..} of all ways in their order; null: there is none. */
    private int[] seek(int man, int hold, int first, int heavy, int weight, boolean flat) {
        int lanes = t.lanes.size();
        int ways = 1;
        for (int i = 0; i < lanes; i++) {
            ways *= 9;
        }
        int[] best = null;
        Row m = t.men.get(man);
        for (int way = 0; way < ways; way++) {
            int[] paces = new int[lanes];
            int left = way;
            for (int i = lanes - 1; i >= 0; i--) {
                paces[i] = left % 9 + 1;
                left /= 9;
            }
            if (first > 0 && paces[0] != first) {
                continue;
            }
            State s = new State();
            s.wind = m.n[0];
            s.legs = m.n[1];
            s.hold = hold;
            while (!s.out && s.steps < total()) {
                int stretch = stretchOf(s.steps);
                stepAt(s, stretch, paces[stretch], m.n[0], heavy, weight, flat);
            }
            if (!s.out && (best == null || s.tenths < best[0])) {
                best = new int[lanes + 1];
                best[0] = s.tenths;
                System.arraycopy(paces, 0, best, 1, lanes);
            }
        }
        return best;
    }

    private int[] seek(int man, int hold, int first) {
        return seek(man, hold, first, sack, t.men.get(man).n[2], false);
    }

    private boolean both(int man, int hold) {
        return in(t.men, man) && in(t.holds, hold);
    }

    int best(int man, int hold) {
        if (!both(man, hold)) {
            return -1;
        }
        int[] best = seek(man, hold, 0);
        return best == null ? -2 : best[0];
    }

    int paces(int man, int hold, int stretch) {
        if (!both(man, hold) || !in(t.lanes, stretch)) {
            return -1;
        }
        int[] best = seek(man, hold, 0);
        return best == null ? -2 : best[1 + stretch];
    }

    int quick(int man, int hold, int pace) {
        if (!both(man, hold) || pace < 1 || pace > 9 || t.lanes.isEmpty()) {
            return -1;
        }
        int[] quick = seek(man, hold, pace);
        return quick == null ? -2 : quick[0] - seek(man, hold, 0)[0];
    }

    private State steady(int man, int hold, int wind, int pace) {
        State s = new State();
        s.wind = wind;
        s.legs = t.men.get(man).n[1];
        s.hold = hold;
        while (!s.out && s.steps < total()) {
            stepAt(s, stretchOf(s.steps), pace, wind, sack, t.men.get(man).n[2], false);
        }
        return s;
    }

    int safe(int man, int hold, int wind, int what) {
        if (!both(man, hold) || wind < 1 || wind > t.men.get(man).n[0] || what < 0 || what > 1) {
            return -1;
        }
        int bestPace = -2;
        int bestTenths = -2;
        for (int pace = 9; pace >= 1; pace--) {
            boolean safe = true;
            for (int w = wind; w <= t.men.get(man).n[0]; w++) {
                safe &= !steady(man, hold, w, pace).out;
            }
            int tenths = steady(man, hold, t.men.get(man).n[0], pace).tenths;
            if (safe && (bestPace == -2 || tenths <= bestTenths)) {
                bestPace = pace;
                bestTenths = tenths;
            }
        }
        return what == 0 ? bestPace : bestTenths;
    }

    int held(int man, int what) {
        if (!in(t.men, man) || t.holds.isEmpty() || what < 0 || what > 1) {
            return -1;
        }
        int best = -2;
        for (int h = t.holds.size() - 1; h >= 0; h--) {
            int b = best(man, h);
            if (b >= 0 && (best == -2 || b <= best(man, best))) {
                best = h;
            }
        }
        return what == 0 || best == -2 ? best : best(man, best);
    }

    int weighed(int man, int hold, int n, int what) {
        if (!both(man, hold) || n < 0 || n > 10 || what < 0 || what > 1) {
            return -1;
        }
        int bestWeight = -2;
        int bestTenths = -2;
        int own = t.men.get(man).n[2];
        for (int w = 1; w <= 30; w++) {
            int[] way = Math.abs(w - own) <= n ? seek(man, hold, 0, sack, w, false) : null;
            if (way != null && (bestWeight == -2 || way[0] < bestTenths)) {
                bestWeight = w;
                bestTenths = way[0];
            }
        }
        return what == 0 ? bestWeight : bestTenths;
    }

    int flat(int man, int hold) {
        if (!both(man, hold)) {
            return -1;
        }
        int[] way = seek(man, hold, 0, sack, t.men.get(man).n[2], true);
        return way == null ? -2 : way[0];
    }

    int alike(int man, int hold, int tenths) {
        if (!both(man, hold) || tenths < 0 || tenths > 9999) {
            return -1;
        }
        int best = -2;
        for (int heavy = 0; heavy <= 30; heavy++) {
            int[] way = seek(man, hold, 0, heavy, t.men.get(man).n[2], false);
            if (way != null && way[0] <= tenths) {
                best = heavy;
            }
        }
        return best;
    }

    // ---- training

    int trained(int man, int n, int harm, int what) {
        if (!in(t.men, man) || n < 1 || n > 6 || harm < 0 || harm > 999 || what < 0 || what > 2) {
            return -999;
        }
        int[] best = null;
        int ways = 1 << 2 * n;
        for (int way = 0; way < ways; way++) {
            int form = 0;
            int tired = 0;
            int sum = 0;
            int loads = 0;
            for (int week = 0; week < n; week++) {
                int load = way >> 2 * (n - 1 - week) & 3;
                loads |= load << 2 * week;
                Map<String, Integer> names = new HashMap<>();
                names.put("pace", week);
                names.put("slope", 0);
                names.put("heavy", load);
                names.put("weight", t.men.get(man).n[2]);
                names.put("wind", form);
                names.put("legs", tired);
                names.put("damp", 0);
                names.put("curve", 0);
                sum += bounded("harm", names, 0, 99, 0);
                form = Math.max(0, Math.min(60, form + bounded("gain", names, -20, 20, 0)));
                tired = Math.max(0, Math.min(60, tired + bounded("tire", names, -20, 20, 0)));
            }
            int worth = form - tired;
            if (sum <= harm && (best == null || worth > best[0] || worth == best[0] && sum < best[1])) {
                best = new int[] {worth, sum, loads};
            }
        }
        if (best == null) {
            return what == 0 ? -99 : -1;
        }
        return best[what];
    }

    // ---- splits

    int note(int man, int plan, int stretch, int tenths) {
        if (!in(t.men, man) || !in(t.plans, plan) || !in(t.lanes, stretch) || tenths < 0 || tenths > 99999
            || splits.size() == 24) {
            return -1;
        }
        splits.add(new int[] {man, plan, stretch, tenths});
        return splits.size() - 1;
    }

    int strike(int split) {
        if (!in(splits, split) || splits.size() == 24) {
            return -1;
        }
        splits.add(new int[] {split});
        return splits.size() - 1;
    }

    boolean known(int n) {
        if (n < -1 || n > splits.size()) {
            return false;
        }
        known = n;
        return true;
    }

    private int knownBy() {
        return known == -1 ? splits.size() : known;
    }

    private boolean struck(int i) {
        for (int j = i + 1; j < knownBy(); j++) {
            if (splits.get(j).length == 1 && splits.get(j)[0] == i && !struck(j)) {
                return true;
            }
        }
        return false;
    }

    int fits(int man, int what) {
        if (!in(t.men, man) || what < 0 || what > 4) {
            return -1;
        }
        int[] a = {0, 99, 0, 99, 0};
        for (int wind = 1; wind <= 60; wind++) {
            for (int legs = 1; legs <= 40; legs++) {
                boolean fits = true;
                for (int i = 0; i < knownBy() && fits; i++) {
                    int[] s = splits.get(i);
                    if (s.length == 4 && s[0] == man && !struck(i)) {
                        fits = tell(ran(man, s[1], stepsBy(s[2]), wind, legs), 0) == s[3];
                    }
                }
                if (fits) {
                    a[0]++;
                    a[1] = Math.min(a[1], wind);
                    a[2] = Math.max(a[2], wind);
                    a[3] = Math.min(a[3], legs);
                    a[4] = Math.max(a[4], legs);
                }
            }
        }
        return what > 0 && a[0] == 0 ? -2 : a[what];
    }

    // ---- draws

    private State drawn(int man, int plan) {
        State s = start(man, plan, t.men.get(man).n[0], t.men.get(man).n[1]);
        while (!s.out && s.steps < total()) {
            raceStep(s);
        }
        return s;
    }

    int wins(int seed, int men, int plan, int man) {
        if (seed < 0 || men < 1 || men >= 1 << t.men.size() || !in(t.plans, plan) || !in(t.men, man)
            || (men & 1 << man) == 0) {
            return -1;
        }
        long was = last;
        last = seed;
        int wins = 0;
        for (int i = 0; i < 10; i++) {
            int best = -1;
            int least = Integer.MAX_VALUE;
            for (int m = 0; m < t.men.size(); m++) {
                if ((men & 1 << m) != 0) {
                    State s = drawn(m, plan);
                    if (!s.out && s.tenths < least) {
                        best = m;
                        least = s.tenths;
                    }
                }
            }
            wins += best == man ? 1 : 0;
        }
        last = was;
        return wins;
    }

    int beats(int seed, int man, int plan, int tenths) {
        if (seed < 0 || !in(t.plans, plan) || !in(t.men, man) || tenths < 0 || tenths > 99999) {
            return -1;
        }
        long was = last;
        last = seed;
        int beats = 0;
        for (int i = 0; i < 10; i++) {
            State s = drawn(man, plan);
            beats += !s.out && s.tenths <= tenths ? 1 : 0;
        }
        last = was;
        return beats;
    }

    // ---- corners

    private boolean corners(int men, int stretch) {
        return men >= 1 && men < 1 << t.men.size() && in(t.lanes, stretch) && t.lanes.get(stretch).bend;
    }

    private int loses(int man, int inside, int stretch) {
        Row m = t.men.get(man);
        Map<String, Integer> names = names(stretch, 0, sack, m.n[2], m.n[0], m.n[1], false);
        if ((inside & 1 << man) == 0) {
            return bounded("wide", names, 0, 999, 6);
        }
        return bounded("jam", names, 0, 999, 5) * (Integer.bitCount(inside) - 1);
    }

    private List<Integer> allRests(int men, int stretch) {
        List<Integer> rests = new ArrayList<>();
        for (int inside = 0; inside < 32; inside++) {
            boolean rest = (inside & men) == inside;
            for (int m = 0; m < 5 && rest; m++) {
                rest = (men & 1 << m) == 0 || loses(m, inside, stretch) <= loses(m, inside ^ 1 << m, stretch);
            }
            if (rest) {
                rests.add(inside);
            }
        }
        return rests;
    }

    int rests(int men, int stretch) {
        return corners(men, stretch) ? allRests(men, stretch).size() : -1;
    }

    int rest(int men, int stretch, int k) {
        if (!corners(men, stretch) || k < 0) {
            return -1;
        }
        List<Integer> rests = allRests(men, stretch);
        return k < rests.size() ? rests.get(k) : -2;
    }

    int corner(int men, int stretch, int what) {
        if (!corners(men, stretch) || what < 0 || what > 1) {
            return -1;
        }
        int best = -1;
        int least = Integer.MAX_VALUE;
        for (int inside = 0; inside < 32; inside++) {
            int sum = 0;
            for (int m = 0; m < 5; m++) {
                sum += (men & 1 << m) != 0 ? loses(m, inside, stretch) : 0;
            }
            if ((inside & men) == inside && sum < least) {
                best = inside;
                least = sum;
            }
        }
        return what == 0 ? least : best;
    }

    // ---- judges

    long down(int ofHundred, int asked, int say, int what) {
        int all = (1 << t.judges.size()) - 1;
        if (ofHundred < 0 || ofHundred > 100 || (asked | all) != all || (say | asked) != asked || what < 0 || what > 1) {
            return -1;
        }
        BigInteger a = BigInteger.valueOf(ofHundred);
        BigInteger b = BigInteger.valueOf(100 - ofHundred);
        for (int i = 0; i < t.judges.size(); i++) {
            if ((asked & 1 << i) != 0) {
                int[] n = t.judges.get(i).n;
                boolean says = (say & 1 << i) != 0;
                a = a.multiply(BigInteger.valueOf(says ? n[0] : 100 - n[0]));
                b = b.multiply(BigInteger.valueOf(says ? n[1] : 100 - n[1]));
            }
        }
        b = a.add(b);
        if (b.signum() == 0) {
            return what;
        }
        BigInteger g = a.gcd(b);
        return (what == 0 ? a : b).divide(g).longValue();
    }

    /** How many say so, as numbers above 100 to the power of the JUDGES, by one JUDGE after another. */
    private int[] sayings(int column) {
        int[] ways = {1, 0, 0, 0, 0};
        for (Row judge : t.judges) {
            for (int i = 4; i >= 0; i--) {
                ways[i] = ways[i] * (100 - judge.n[column]) + (i > 0 ? ways[i - 1] * judge.n[column] : 0);
            }
        }
        return ways;
    }

    int errors(int k, int what) {
        if (k < 0 || k > 5 || what < 0 || what > 1) {
            return -1;
        }
        int sum = 0;
        int[] ways = sayings(what);
        for (int i = 0; i < 5; i++) {
            sum += i < k == (what == 0) ? ways[i] : 0;
        }
        return sum;
    }

    int rule() {
        int best = 5;
        for (int k = 5; k >= 0; k--) {
            if (errors(k, 0) + errors(k, 1) <= errors(best, 0) + errors(best, 1)) {
                best = k;
            }
        }
        return best;
    }

    int count(int what) {
        switch (what) {
            case 0: return t.lanes.size();
            case 1: return t.men.size();
            case 2: return t.holds.size();
            case 3: return t.plans.size();
            case 4: return t.knots;
            case 5: return total();
            case 6: return splits.size();
            case 7: return knownBy();
            case 8: return past.size();
            case 9: return sack;
            case 10: return t.judges.size();
            default: return -1;
        }
    }
}
