/** Each sentence of Terms, and of promises 1 to 5 and 43, that names a boundary case. */
public final class TextBoundsTest {
    private static final String[] LANGUAGE = {"lane", "man", "hold", "plan", "judge", "load", "seed", "law", "bend",
        "wet", "time", "cost", "ache", "gain", "tire", "harm", "jam", "wide", "not", "and", "or", "pace", "slope",
        "heavy", "weight", "wind", "legs", "damp", "curve"};
    private static final String[] KINDS = {"time", "cost", "ache", "gain", "tire", "harm", "jam", "wide"};
    private static final String[] NAMES = {"pace", "slope", "heavy", "weight", "wind", "legs", "damp", "curve"};

    public static void main(String[] args) {
        newObject();
        feed();
        lengths();
        tapeBehindText();
        words();
        wordsOfTheLanguage();
        blanks();
        numbers();
        numbersAsTold();
        rows();
        firstAndLeast();
        moreMustCome();
        cantStandThere();
        signs();
        comparisons();
        paces();
        open();
        knots();
        knotsOfEachKind();
        toldAlready();
        holdAhead();
        stays();
        fault();
        named();
        withoutLoadAndSeed();
        Check.finish("TextBoundsTest");
    }

    private static void newObject() {
        Check.sentence("A TEXT without LINES; an empty TAPE; no RACE");
        SackRace x = new SackRace();
        Check.due("count(5)", x.count(5), 0);
        Check.due("text(1)", x.text(1), -2);
        Check.due("feed", x.feed(0, 0, 0, 0, 0), 20);
        Check.due("go(0)", x.go(0), -1);
        Check.due("keep()", x.keep(), -2);
        Check.due("rain falls on none", x.rain(false), 0);
        Check.due("fault(0)", x.fault(0), 0);
        Check.due("fault(1)", x.fault(1), -1);
    }

    private static void feed() {
        Check.sentence("feed: NONE, and none come, if it would have more than 700");
        SackRace x = new SackRace();
        for (int i = 1; i <= 34; i++) {
            x.feed(0x20202020, 0x20202020, 0x20202020, 0x20202020, 0x20202020);
        }
        Check.due("700 are not more", x.feed(0x6c6f6164, 0x20363b20, 0x20202020, 0x20202020, 0x2020203b), 700);
        Check.due("more", x.feed(-1, -1, -1, -1, -1), -1);
        Check.due("once more", x.feed(-1, -1, -1, -1, -1), -1);
        Check.due("text(701)", x.text(701), -2);
        Check.due("still full", x.feed(-1, -1, -1, -1, -1), -1);
        Check.due("text(699)", x.text(699), 1);
        Check.due("load", x.count(9), 6);
        Check.sentence("feed: four of each number, the highest first");
        SackRace y = new SackRace();
        y.feed(0x6c6f6164, 0x0a31323b, 0x80ffffff, 0xff000000, 0);
        Check.due("bytes below 0 as ints", y.text(9), -1);
        Check.due("place", y.fault(1), 8);
    }

    private static void lengths() {
        Check.sentence("text: -2, and the TAPE stays: there are not so many, n is below 0");
        SackRace x = new SackRace();
        x.feed(0x6c6f6164, 0x20353b20, 0x20202020, 0x20202020, 0x20202020);
        Check.due("text(21)", x.text(21), -2);
        Check.due("text(-1)", x.text(-1), -2);
        Check.due("text(least)", x.text(Integer.MIN_VALUE), -2);
        Check.due("text(most)", x.text(Integer.MAX_VALUE), -2);
        Check.due("feed", x.feed(0x21212121, 0, 0, 0, 0), 40);
        Check.due("text(41)", x.text(41), -2);
        Check.due("text(20)", x.text(20), 1);
        Check.due("load", x.count(9), 5);
        Check.sentence("text: The TAPE's first n bytes are the TEXT (all 700, none)");
        SackRace y = new SackRace();
        StringBuilder s = new StringBuilder("load 4;");
        while (s.length() < 699) {
            s.append(' ');
        }
        Check.due("700", Check.tell(y, s + "\n"), 1);
        Check.due("load", y.count(9), 4);
        Check.due("feed", y.feed(0x21212121, 0, 0, 0, 0), 20);
        Check.due("text(0)", y.text(0), 0);
        Check.due("a TEXT without LINES", y.count(9), 8);
        Check.due("blanks alone", Check.tell(y, "\n  \n "), 0);
        Check.faulty(s + "!", 1, 699);
    }

    private static void tapeBehindText() {
        Check.sentence("text: The TAPE (it is empty then)");
        SackRace x = new SackRace();
        Check.feed(x, "load 5;load 6;load 7;");
        Check.due("text(7)", x.text(7), 1);
        Check.due("nothing is left", x.text(1), -2);
        Check.due("feed", x.feed(0, 0, 0, 0, 0), 20);
        Check.due("a FAULT", x.text(20), -1);
        Check.due("nothing is left", x.text(1), -2);
        Check.due("feed", x.feed(0, 0, 0, 0, 0), 20);
    }

    private static void words() {
        Check.sentence("W: one of 1 .. 6 letters");
        String[] rows = {"lane # 1 1;", "man # 1 1 1;", "hold # 0 0 0;", "hold h 0 0 0;plan # h 1;", "judge # 1 1;"};
        for (int kind = 0; kind < rows.length; kind++) {
            String row = rows[kind];
            int lines = kind == 3 ? 2 : 1;
            for (String name : new String[] {"a", "z", "ab", "abcdef", "zzzzzz"}) {
                SackRace x = new SackRace();
                Check.due(row + name, Check.tell(x, row.replace("#", name)), lines);
                Check.due(row + name, x.named(kind, Check.letters(name)), 0);
            }
            Check.faulty(row.replace("#", "abcdefg"), 1, row.indexOf('#'));
            Check.faulty(row.replace("#", "abcdefghijklmnop"), 1, row.indexOf('#'));
            Check.faulty(row.replace("#", "5"), 1, row.indexOf('#'));
            Check.faulty(row.replace("#", "A"), 1, row.indexOf('#'));
        }
        Check.faulty("hold abcdef 0 0 0;plan p abcdefg 1;", 1, 25);
        Check.sentence("1 a TOKEN that is none (a word of more than 6 letters that isn't of the language, too)");
        Check.faulty("abcdefg 1 1;", 1, 0);
        Check.faulty("weights 1 1;", 1, 0);
        Check.faulty("law timetime 1;", 1, 4);
        Check.faulty("law weightt 1;", 1, 4);
        Check.faulty("law time weightt;", 1, 9);
        Check.faulty("law time weightweight;", 1, 9);
        Check.faulty("load weights;", 1, 5);
        Check.faulty("lane a 1 1 bendbend;", 1, 11);
        Check.faulty("lane a 1 1 bend wetwets;", 1, 16);
        Check.sentence("small letters in a row");
        Check.faulty("Lane a 1 1;", 1, 0);
        Check.faulty("lanE a 1 1;", 1, 0);
        Check.faulty("lane aB 1 1;", 1, 6);
        Check.faulty("lane a` 1 1;", 1, 6);
        Check.faulty("lane a{ 1 1;", 1, 6);
        Check.faulty("lane a" + (char) 228 + " 1 1;", 1, 6);
        Check.faulty("lane a b 1 1;", 1, 7);
        Check.faultless("lane a1 1;", 1);
        Check.faulty("lane a1 1 1;", 1, 10);
    }

    private static void wordsOfTheLanguage() {
        Check.sentence("W: none of those of the language");
        for (String word : LANGUAGE) {
            Check.faulty("lane " + word + " 1 1;", 1, 5);
            Check.faulty("man " + word + " 1 1 1;", 1, 4);
            Check.faulty("hold " + word + " 0 0 0;", 1, 5);
            Check.faulty("hold h 0 0 0;plan " + word + " h 1;", 1, 18);
            Check.faulty("hold h 0 0 0;plan p " + word + " 1;", 1, 20);
            Check.faulty("judge " + word + " 1 1;", 1, 6);
            String nearly = word.substring(0, word.length() - 1);
            Check.faultless("man " + nearly + " 1 1 1;hold " + nearly + " 1 1 1;plan " + nearly + " " + nearly + " 1;", 3);
            if (word.length() < 6) {
                Check.faultless("man " + word + "x 1 1 1;lane x" + word + " 1 1;", 2);
            }
        }
        Check.sentence("LINE: lane | man | hold | plan | judge | load | seed | law");
        for (int i = 8; i < LANGUAGE.length; i++) {
            Check.faulty("load 1;" + LANGUAGE[i] + " 1;", 1, 7);
        }
        Check.sentence("KIND: time | cost | ache | gain | tire | harm | jam | wide");
        for (String word : LANGUAGE) {
            boolean kind = String.join(" ", KINDS).contains(word);
            if (kind) {
                Check.faultless("law " + word + " 1;", 1);
            } else {
                Check.faulty("law " + word + " 1;", 1, 4);
            }
        }
        Check.sentence("NAME: pace slope heavy weight wind legs damp curve");
        for (String word : LANGUAGE) {
            boolean name = String.join(" ", NAMES).contains(word);
            if (name) {
                Check.faultless("law time " + word + ";", 1);
            } else if (!word.equals("not")) {
                Check.faulty("law time " + word + ";", 1, 9);
            }
        }
        Check.faulty("lane abc 1 1;law time abc;", 1, 22);
    }

    private static void blanks() {
        Check.sentence("Blanks 10, 32");
        Check.faultless("\n load \n 5 \n ;\n", 1);
        for (int sign = 0; sign < 256; sign++) {
            boolean blank = sign == 10 || sign == 32;
            boolean none = sign < 32 || sign > 126;
            if (blank) {
                Check.faultless("load" + (char) sign + "5;", 1);
            } else if (none || "!\"#$%&'*,.:?@[\\]^_`{|}~".indexOf(sign) >= 0) {
                Check.faulty("load" + (char) sign + "5;", 1, 4);
                Check.faulty("law time 1" + (char) sign, 1, sign == '*' ? 11 : 10);
            }
        }
        Check.sentence("a blank ends a word, a number, a sign");
        Check.faulty("la ne a 1 1;", 1, 0);
        Check.faulty("load 1 2;", 1, 7);
    }

    private static void number(String line, int lines, int low, int high) {
        int place = line.indexOf('#');
        Check.faultless(line.replace("#", String.valueOf(low)), lines);
        Check.faultless(line.replace("#", String.valueOf(high)), lines);
        Check.faultless(line.replace("#", "00000000000" + high), lines);
        Check.faulty(line.replace("#", String.valueOf(high + 1)), 2, place);
        Check.faulty(line.replace("#", "00000" + (high + 1)), 2, place);
        if (low > 0) {
            Check.faulty(line.replace("#", String.valueOf(low - 1)), 2, place);
            Check.faulty(line.replace("#", "000"), 2, place);
        }
        Check.faulty(line.replace("#", "4294967296"), 2, place);
        Check.faulty(line.replace("#", "4294967297"), 2, place);
        Check.faulty(line.replace("#", "18446744073709551617"), 2, place);
        Check.faulty(line.replace("#", "1000000000000000000000000000000"), 2, place);
        Check.faulty(line.replace("#", "-1"), 1, place);
        Check.faulty(line.replace("#", "x"), 1, place);
    }

    private static void numbers() {
        Check.sentence("STEPS 1 .. 20, 2: a number beyond what is said");
        number("lane a # 0;", 1, 1, 20);
        Check.sentence("SLOPE 0 .. 9");
        number("lane a 1 #;", 1, 0, 9);
        number("lane a 1 # bend wet;", 1, 0, 9);
        Check.sentence("WIND 1 .. 60");
        number("man m # 7 7;", 1, 1, 60);
        Check.sentence("LEGS 1 .. 40");
        number("man m 7 # 7;", 1, 1, 40);
        Check.sentence("WEIGHT 1 .. 30");
        number("man m 7 7 #;", 1, 1, 30);
        Check.sentence("HOLDS: what more wind each STEP costs 0 .. 9");
        number("hold h # 7 7;", 1, 0, 9);
        Check.sentence("HOLDS: slips of a hundred 0 .. 99");
        number("hold h 7 # 7;", 1, 0, 99);
        Check.sentence("HOLDS: SHIFT 0 .. 99");
        number("hold h 7 7 #;", 1, 0, 99);
        Check.sentence("JUDGES: if it was 0 .. 100");
        number("judge j # 7;", 1, 0, 100);
        Check.sentence("JUDGES: if it wasn't 0 .. 100");
        number("judge j 7 #;", 1, 0, 100);
        Check.sentence("load: 0 .. 30");
        number("load #;", 1, 0, 30);
        Check.sentence("seed: 0 .. 99999");
        number("seed #;", 1, 0, 99999);
        Check.sentence("paces 1 .. 9 each");
        String paces = "hold h 0 0 0;plan p h ";
        number(paces + "#;", 2, 1, 9);
        for (int i = 1; i < 6; i++) {
            paces = paces + "5 ";
            int place = paces.length();
            Check.faultless(paces + "1;", 2);
            Check.faultless(paces + "9;", 2);
            Check.faulty(paces + "0;", 2, place);
            Check.faulty(paces + "10;", 2, place);
            Check.faulty(paces + "0 0;", 2, place);
        }
        Check.sentence("N of E 0 .. 9999");
        Check.faultless("law time 0;", 1);
        Check.faultless("law time 9999 + (0009999);", 1);
        Check.faulty("law time 10000;", 2, 9);
        Check.faulty("law time 1 + 010000;", 2, 13);
        Check.faulty("law time (99999999999999999999);", 2, 10);
    }

    private static void numbersAsTold() {
        Check.sentence("N: digits, as told");
        SackRace x = Check.told("lane a 20 9;lane b 1 0;man m 60 40 30;load 30;");
        Check.due("STEPS", x.look(0, 0), 20);
        Check.due("SLOPE", x.look(0, 1), 9);
        Check.due("STEPS", x.look(1, 0), 1);
        Check.due("SLOPE", x.look(1, 1), 0);
        Check.due("SACK", x.count(9), 30);
        SackRace y = Check.told("man m 60 40 30;hold h 0 0 0;plan p h 1;load 0;");
        Check.due("WIND", y.run(0, 0, 1), 60);
        Check.due("LEGS", y.run(0, 0, 2), 40);
        Check.due("SACK", y.count(9), 0);
    }

    /** So many rows of a kind, named a, b and so on, behind what they need. */
    private static String rowsOf(String row, int n) {
        StringBuilder s = new StringBuilder(row.startsWith("plan") ? "hold h 0 0 0;" : "");
        for (int i = 0; i < n; i++) {
            s.append(row.replace("#", String.valueOf((char) ('a' + i))));
        }
        return s.toString();
    }

    private static void most(String row, int kind, int most) {
        int more = row.startsWith("plan") ? 1 : 0;
        String all = rowsOf(row, most);
        Check.faultless(all, most + more);
        SackRace x = Check.told(all);
        Check.due("count " + kind, x.count(kind == 4 ? 10 : kind), most);
        Check.due("the last one", x.named(kind, Check.letters(String.valueOf((char) ('a' + most - 1)))), most - 1);
        Check.due("the first one", x.named(kind, Check.letters("a")), 0);
        Check.faulty(rowsOf(row, most + 1), 2, all.length());
        Check.faulty("load 1;" + rowsOf(row, most + 1), 2, all.length() + 7);
        // at the word of the LINE, whatever stands behind it
        String word = row.substring(0, row.indexOf(' '));
        Check.faulty(all + " " + word, 2, all.length() + 1);
        Check.faulty(all + word + " a 1 1 1;", 2, all.length());
        Check.faulty(all + word + " 99 !", 2, all.length());
    }

    private static void rows() {
        Check.sentence("STRETCHES, at most 6; a seventh lane (at the word of the LINE)");
        most("lane # 1 1;", 0, 6);
        Check.sentence("MEN, at most 5");
        most("man # 1 1 1;", 1, 5);
        Check.sentence("HOLDS, at most 3");
        most("hold # 1 1 1;", 2, 3);
        Check.sentence("PLANS, at most 5");
        most("plan # h 1;", 3, 5);
        Check.sentence("JUDGES, at most 4");
        most("judge # 1 1;", 4, 4);
        Check.sentence("STRETCHES: a BEND or not, WET or not");
        SackRace x = Check.told("lane a 1 1;lane b 1 1 bend;lane c 1 1 wet;lane d 1 1 bend wet;");
        for (int i = 0; i < 4; i++) {
            Check.due("BEND of " + i, x.look(i, 2), i % 2);
            Check.due("WET of " + i, x.look(i, 3), i / 2);
        }
        Check.sentence("[ bend ] [ wet ]: in this order, once each");
        Check.faulty("lane a 1 1 wet bend;", 1, 15);
        Check.faulty("lane a 1 1 bend bend;", 1, 16);
        Check.faulty("lane a 1 1 wet wet;", 1, 15);
        Check.faulty("lane a 1 1 bend wet wet;", 1, 20);
        Check.faulty("lane a 1 bend;", 1, 9);
        Check.faulty("man m 1 1 1 bend;", 1, 12);
        Check.faulty("hold h 1 1 1 wet;", 1, 13);
        Check.faulty("judge j 1 1 bend;", 1, 12);
        Check.faulty("judge j 1 1 1;", 1, 12);
        Check.faulty("hold h 1 1 1 1;", 1, 13);
    }

    private static void firstAndLeast() {
        Check.sentence("FAULTS, the first along the text");
        Check.faulty("load 31;lane a 0 0;", 2, 5);
        Check.faulty("lane a 1 1;lane a 0 0;", 3, 16);
        Check.faulty("lane a 1 1;lane a", 3, 16);
        Check.faulty("hold h 0 0 0;plan p g 0;!", 4, 20);
        Check.faulty("load 1;load !", 3, 7);
        Check.faulty("law time 1;law time !", 3, 15);
        Check.faulty("law time 10000 ! ;", 2, 9);
        Check.faulty("lane a 21", 2, 7);
        Check.faulty("load 5;;", 1, 7);
        Check.sentence("FAULTS, of one place the least");
        Check.faulty("lane a 1 1 99999;", 1, 11);
        Check.faulty("law time 1 10000;", 1, 11);
        Check.faulty("law time ((((((((1(", 1, 18);
        Check.faulty("lane 99999 1 1;", 1, 5);
        Check.faulty("seed 1;load 5 31;", 1, 14);
        Check.faulty("hold h 0 0 0;plan p 99999;", 1, 20);
    }

    /** Each text is cut behind each of its tokens but the last one. */
    private static void moreMustCome() {
        Check.sentence("1: (the length, if more must come)");
        String[] texts = {"lane a 1 1 bend wet ;", "lane a 1 1 wet ;", "man m 1 1 1 ;", "hold h 0 0 0 ;", "judge j 1 1 ;",
            "load 1 ;", "seed 1 ;", "law time 1 + pace * ( not wind - 2 ) / 3 and 1 or 0 <= 2 ;"};
        for (String text : texts) {
            for (int i = 1; i < text.length(); i++) {
                if (text.charAt(i) == ' ') {
                    Check.faulty(text.substring(0, i), 1, i);
                    Check.faulty("load 1;".replace("load", text.startsWith("load") ? "seed" : "load") + text.substring(0, i)
                        + " \n", 1, i + 9);
                }
            }
            Check.faultless(text, 1);
        }
        String plan = "plan p h 1 2 3 4 5 6 ;";
        for (int i = 1; i < plan.length(); i++) {
            if (plan.charAt(i) == ' ') {
                Check.faulty("hold h 0 0 0;" + plan.substring(0, i), 1, 13 + i);
            }
        }
        Check.faultless("hold h 0 0 0;" + plan, 2);
    }

    private static void cantStandThere() {
        Check.sentence("1 a TOKEN that can't stand there");
        String[] texts = {"lane a 1 1 bend wet ;", "man m 1 1 1 ;", "hold h 0 0 0 ;", "judge j 1 1 ;", "load 1 ;",
            "seed 1 ;", "law time 1 ;"};
        String[] strangers = {"(", ")", "+", "<", "=", "law", "man", "time", "pace", "and", "not", ",", "7777777seven"};
        for (String text : texts) {
            for (int i = 0; i < text.length(); i++) {
                boolean begins = i == 0 || text.charAt(i - 1) == ' ';
                for (String stranger : strangers) {
                    boolean fits = text.startsWith("law") && (i == 4 && stranger.equals("time")
                        || i >= 9 && !stranger.equals("law") && !stranger.equals("man") && !stranger.equals("time")
                        && !stranger.equals(",") && !stranger.startsWith("7"));
                    boolean number = stranger.startsWith("7") && Character.isDigit(text.charAt(i));
                    boolean line = i == 0 && (stranger.equals("law") || stranger.equals("man"));
                    if (begins && !fits && !line && !number) {
                        Check.faulty(text.substring(0, i) + stranger + " " + text.substring(i), 1, i);
                    }
                }
            }
        }
        for (String stranger : new String[] {")", "+", "-", "*", "/", "<", "<=", "=", "<>", ">=", ">", "and", "or", ";"}) {
            Check.faulty("law time " + stranger + " 1;", 1, 9);
            Check.faulty("law time (" + stranger + " 1;", 1, 10);
            Check.faulty("law time 1 + " + stranger + " 1;", 1, 13);
            Check.faulty("law time not " + stranger + " 1;", 1, 13);
        }
        for (String stranger : new String[] {"1", "pace", "not", "(", "load", "x", ")"}) {
            Check.faulty("law time 1 " + stranger, 1, 11);
            Check.faulty("law time (pace) " + stranger, 1, 16);
        }
        Check.faulty("law time (1;", 1, 11);
        Check.faulty("law time ((1);", 1, 13);
    }

    private static void signs() {
        Check.sentence("A = (or > behind <) right behind < or > belongs to it");
        Check.faultless("law time 1<=2;law cost 1<>2;law ache 1>=2;law gain 1<2;law tire 1>2;law harm 1=2;", 6);
        SackRace x = Check.told("lane a 1 1;man m 1 1 1;law time 2<=2;law cost 2<>2;law ache 2>=2;");
        Check.due("2<=2", x.law(0, 0, 0, 1), 1);
        Check.due("2<>2", x.law(1, 0, 0, 1), 0);
        Check.due("2>=2", x.law(2, 0, 0, 1), 1);
        Check.due("KNOTS", x.count(4), 9);
        Check.faulty("law time 1 < = 2;", 1, 13);
        Check.faulty("law time 1 <\n> 2;", 1, 13);
        Check.faulty("law time 1 > = 2;", 1, 13);
        Check.faulty("law time 1 >< 2;", 1, 12);
        Check.faulty("law time 1 >> 2;", 1, 12);
        Check.faulty("law time 1 << 2;", 1, 12);
        Check.faulty("law time 1 == 2;", 1, 12);
        Check.faulty("law time 1 =< 2;", 1, 12);
        Check.faulty("law time 1 => 2;", 1, 12);
        Check.faulty("law time 1 <>= 2;", 1, 13);
        Check.faulty("law time 1 <=> 2;", 1, 13);
        Check.faulty("law time 1 >=> 2;", 1, 13);
        Check.faulty("law time 1 ! = 2;", 1, 11);
        Check.sentence("A = right behind < belongs to it, even where neither can stand");
        Check.faulty("law time <= 1;", 1, 9);
        Check.faulty("law time 1 + <> 1;", 1, 13);
    }

    private static void comparisons() {
        Check.sentence("C: S [ ( < | <= | = | <> | >= | > ) S ]");
        String[] signs = {"<", "<=", "=", "<>", ">=", ">"};
        for (String a : signs) {
            for (String b : signs) {
                String one = "law time 1 " + a + " 2 ";
                Check.faulty(one + b + " 3;", 1, one.length());
                Check.faulty(one + "+ 3 * 4 " + b + " 3;", 1, one.length() + 8);
                Check.faultless("law time (1 " + a + " 2) " + b + " 3;", 1);
                Check.faultless("law time 1 " + a + " (2 " + b + " 3);", 1);
                Check.faultless("law time 1 " + a + " 2 and 2 " + b + " 3;", 1);
                Check.faultless("law time 1 " + a + " 2 or not 2 " + b + " 3;", 1);
                Check.faulty("law time not 1 " + a + " 2 " + b + " 3;", 1, 13 + one.length() - 9);
            }
            SackRace x = Check.told("lane a 1 1;man m 1 1 1;law time 1 + 2 " + a + " 9 - 6;law cost 4 - 2 " + a
                + " 9 / 3;law ache 2 * 2 " + a + " 1 + 2;");
            boolean equal = a.equals("<=") || a.equals("=") || a.equals(">=");
            Check.due("3 " + a + " 3", x.law(0, 0, 0, 1), equal ? 1 : 0);
            boolean less = a.equals("<") || a.equals("<=") || a.equals("<>");
            Check.due("2 " + a + " 3", x.law(1, 0, 0, 1), less ? 1 : 0);
            boolean more = a.equals(">") || a.equals(">=") || a.equals("<>");
            Check.due("4 " + a + " 3", x.law(2, 0, 0, 1), more ? 1 : 0);
        }
        Check.sentence("B: not B | C: not stands ahead of a whole C alone");
        Check.faultless("law time not not not 1;", 1);
        Check.faultless("law time 1 and not 1 or not 1;", 1);
        Check.faultless("law time 1 + (not 1);", 1);
        Check.faultless("law time 1 < (not 1);", 1);
        for (String a : new String[] {"+", "-", "*", "/", "<", "<=", "=", "<>", ">=", ">"}) {
            String one = "law time 1 " + a + " ";
            Check.faulty(one + "not 1;", 1, one.length());
            Check.faulty("law time (not 1 " + a + " not 1);", 1, 10 + 4 + one.length() - 9);
        }
    }

    private static void paces() {
        Check.sentence("PLANS: paces 1 .. 6, a seventh pace (at it)");
        String hold = "hold h 0 0 0;plan p h";
        String paces = "";
        for (int i = 1; i <= 6; i++) {
            paces += " " + i;
            Check.faultless(hold + paces + ";", 2);
        }
        Check.faulty(hold + paces + " 1;", 2, 34);
        Check.faulty(hold + paces + " 0;", 2, 34);
        Check.faulty(hold + paces + " 99", 2, 34);
        Check.faulty(hold + paces + " x;", 1, 34);
        Check.faulty(hold + ";", 1, 21);
        Check.sentence("PLANS: the last one for all that are left");
        for (int n = 1; n <= 6; n++) {
            SackRace x = Check.told("lane a 1 1;lane b 1 1;lane c 1 1;lane d 1 1;lane e 1 1;lane f 1 1;" + hold
                + paces.substring(0, 2 * n) + ";");
            for (int i = 0; i < 6; i++) {
                Check.due(n + " paces, STRETCH " + i, x.pace(0, i), Math.min(n, i + 1));
            }
        }
        Check.sentence("PLANS: more paces than STRETCHES");
        SackRace x = Check.told("lane a 1 1;" + hold + paces + ";");
        Check.due("pace(0, 0)", x.pace(0, 0), 1);
        Check.due("pace(0, 1)", x.pace(0, 1), -1);
    }

    private static void open() {
        Check.sentence("2: a ninth '(' open");
        Check.faultless("law time ((((((((1))))))));", 1);
        Check.faulty("law time (((((((((1)))))))));", 2, 17);
        Check.faulty("law time (((((((((", 2, 17);
        Check.faultless("law time ((((((((1)))))))) + (((((((( 1 ))))))));", 1);
        Check.faultless("law time ((((((((1) + (1)))))))) ;", 1);
        Check.faulty("law time ((((((((1) + ((1))))))))) ;", 2, 23);
        Check.faultless("law time ((((((((1))))))));law cost ((((((((1))))))));", 2);
        Check.sentence("2: '(' left open by a FAULT are no more in the next TEXT");
        SackRace x = new SackRace();
        Check.due("a FAULT", Check.tell(x, "law time 1 + (((((((( not !"), -1);
        Check.due("no FAULT", Check.tell(x, "law time ((((((((1))))))));"), 1);
        Check.due("a FAULT", Check.tell(x, "law time 1 + ((2 * (3"), -1);
        Check.due("no FAULT", Check.tell(x, "lane a 1 1;man m 1 1 1;law time 4 - 1;"), 3);
        Check.due("4 - 1", x.law(0, 0, 0, 1), 3);
        Check.due("not 0", Check.tell(x, "lane a 1 1;man m 1 1 1;law time not 0 + 0;"), 3);
        Check.due("4 alone, behind a not", Check.tell(x, "lane a 1 1;man m 1 1 1;law time 4;"), 3);
        Check.due("4", x.law(0, 0, 0, 1), 4);
        Check.due("a FAULT", Check.tell(x, "law time not 1 + 2 * !"), -1);
        Check.due("4 less 1, behind a FAULT", Check.tell(x, "lane a 1 1;man m 1 1 1;law time 4 - 1;"), 3);
        Check.due("4 less 1", x.law(0, 0, 0, 1), 3);
        Check.due("a FAULT", Check.tell(x, "law time (1 + 1"), -1);
        Check.due("a ) too many", Check.tell(x, "law time 1);"), -1);
        Check.due("its place", x.fault(1), 10);
    }

    private static String times(String s, int n) {
        StringBuilder all = new StringBuilder();
        for (int i = 0; i < n; i++) {
            all.append(s);
        }
        return all.toString();
    }

    private static void knots() {
        Check.sentence("2: a 65th KNOT of all E (one each)");
        Check.faultless("law time " + times("1+", 31) + "1;", 1);
        SackRace x = Check.told("law time " + times("1+", 31) + "1;law cost pace;");
        Check.due("64", x.count(4), 64);
        Check.faulty("law time " + times("1+", 32) + "1;", 2, 73);
        Check.faulty("law time " + times("not ", 64) + "1;", 2, 265);
        Check.faultless("law time " + times("not ", 63) + "1;", 1);
        Check.faulty("law time " + times("not ", 65) + "1;", 2, 265);
        Check.sentence("2: KNOTS of all E together");
        String eight = "";
        for (String kind : KINDS) {
            eight += "law " + kind + " 1*pace-2/3+1;";
        }
        SackRace y = new SackRace();
        Check.due("8 times 9", Check.tell(y, eight), -1);
        Check.due("72 are too many", y.fault(0), 2);
        Check.due("at the 65th", y.fault(1), eight.indexOf("wide ") + 5 + 1);
        Check.due("8 times 7", Check.tell(y, eight.replace("+1", "") + "seed 1;"), 9);
        Check.due("8 times 7", y.count(4), 56);
        Check.sentence("2: KNOTS begin at 0 with each TEXT");
        for (int i = 0; i < 3; i++) {
            Check.due("64", Check.tell(y, "law time " + times("not ", 63) + "1;"), 1);
            Check.due("65", Check.tell(y, "law time " + times("not ", 64) + "1;"), -1);
            Check.due("64 stay", y.count(4), 64);
        }
        Check.sentence("KNOTS: N, NAMES, signs, not, and, or; brackets are none");
        Check.due("none", Check.told("load 1;").count(4), 0);
        Check.due("one", Check.told("law time (((5)));").count(4), 1);
        Check.due("two", Check.told("law time not (((pace)));").count(4), 2);
        Check.due("all", Check.told("law time 1 + 2 - 3 * 4 / 5 < pace and not 1 or 2;").count(4), 16);
        Check.due("of two letters one", Check.told("law time 1 <= 2;law cost 1 <> 2;law ache 1 >= 2;").count(4), 9);
    }

    /** 64 KNOTS, the last one a value or a sign, and a 65th one of each kind. */
    private static void knotsOfEachKind() {
        Check.sentence("2: a 65th KNOT, of each kind (at it)");
        String valueIsDue = "law time " + times("1+", 32);
        for (String knot : new String[] {"7", "pace", "curve", "10000"}) {
            Check.faulty(valueIsDue + knot + ";", 2, 73);
        }
        String signIsDue = "law time not " + times("1+", 31) + "1";
        for (String knot : new String[] {"+", "-", "*", "/", "<", "<=", "=", "<>", ">=", ">", "and", "or"}) {
            Check.faulty(signIsDue + " " + knot + " 1;", 2, 77);
        }
        Check.faultless(signIsDue + ";", 1);
        String notIsDue = "law time " + times("1+", 31) + "1 and not 2;";
        Check.faulty(notIsDue, 2, 77);
        Check.faulty("law time " + times("not ", 62) + "1 or not 1;", 2, 262);
        Check.sentence("1 or 2 of one place: the least, at a 65th KNOT too");
        Check.faulty(signIsDue + " 1;", 1, 77);
        Check.faulty(signIsDue + " not 1;", 1, 77);
        Check.faulty(valueIsDue + "not 1;", 1, 73);
        Check.faulty(valueIsDue + "+ 1;", 1, 73);
        Check.faulty("law time not not " + times("1+", 29) + "1 = 1 < 1;", 1, 17 + 58 + 5 + 1);
        Check.faulty("law time not " + times("1+", 29) + "1 = 1 + 1 < 1;", 1, 13 + 58 + 10);
    }

    private static void toldAlready() {
        Check.sentence("3 told already: a name of its kind (at W)");
        Check.faulty("lane a 1 1;lane b 1 1;lane a 1 1;", 3, 27);
        Check.faulty("man m 1 1 1;man m 2 2 2;", 3, 16);
        Check.faulty("hold h 0 0 0;hold h 1 1 1;", 3, 18);
        Check.faulty("hold h 0 0 0;plan p h 1;plan q h 1;plan p h 1;", 3, 40);
        Check.faulty("judge j 1 1;judge j 1 1;", 3, 18);
        Check.faulty("lane abcdef 1 1;lane abcdef 1 1;", 3, 21);
        Check.faultless("lane abcdef 1 1;lane abcdeg 1 1;lane abcde 1 1;lane bcdef 1 1;", 4);
        Check.sentence("3: names of another kind may be the same");
        Check.faultless("lane a 1 1;man a 1 1 1;hold a 0 0 0;plan a a 1;judge a 1 1;", 5);
        Check.sentence("3 told already: load, seed (at the word)");
        Check.faulty("load 1;load 1;", 3, 7);
        Check.faulty("load 0;seed 1;load 0;", 3, 14);
        Check.faulty("seed 0;load 0;seed 0;", 3, 14);
        Check.faulty("load 8; load", 3, 8);
        Check.sentence("3 told already: a law of its KIND (at KIND)");
        for (String kind : KINDS) {
            String line = "law " + kind + " 0;";
            Check.faulty(line + line, 3, line.length() + 4);
            Check.faulty(line + "load 3; law  " + kind, 3, line.length() + 13);
        }
        String all = "";
        for (String kind : KINDS) {
            all += "law " + kind + " 0;";
        }
        Check.faultless(all, 8);
        Check.sentence("3: what a TEXT with a FAULT told isn't told");
        SackRace x = new SackRace();
        Check.due("a FAULT", Check.tell(x, "load 1;seed 1;lane a 1 1;law time 1;!"), -1);
        Check.due("none", Check.tell(x, "load 1;seed 1;lane a 1 1;law time 1;"), 4);
        Check.due("told ahead of another TEXT", Check.tell(x, "load 1;seed 1;lane a 1 1;law time 1;"), 4);
    }

    private static void holdAhead() {
        Check.sentence("4 a HOLD that isn't told ahead (at W)");
        Check.faulty("plan p h 1;", 4, 7);
        Check.faulty("plan p h 1;hold h 0 0 0;", 4, 7);
        Check.faulty("hold g 0 0 0;plan p h 1;", 4, 20);
        Check.faulty("man h 1 1 1;lane h 1 1;plan p h 1;", 4, 30);
        Check.faulty("hold h 0 0 0;plan p p 1;", 4, 20);
        Check.faulty("plan h h 1;", 4, 7);
        Check.faultless("hold a 0 0 0;plan p a 1;hold b 0 0 0;plan q b 1;plan r a 1;", 5);
        SackRace x = Check.told("hold a 0 0 0;plan p a 1;hold b 0 0 0;plan q b 1;hold c 1 1 1;plan r c 1;plan s a 1;");
        int[] holds = {0, 1, 2, 0};
        for (int i = 0; i < 4; i++) {
            Check.due("its HOLD", x.pace(i, -1), holds[i]);
        }
        SackRace y = Check.told("hold h 0 0 0;");
        Check.due("the HOLD of the TEXT ahead", Check.tell(y, "plan p h 1;"), -1);
        Check.due("FAULT", y.fault(0), 4);
    }

    private static void stays() {
        Check.sentence("text: NONE with a FAULT, all stays");
        String one = "lane a 3 2 bend;man m 9 9 9;hold h 1 50 3;plan p h 3;judge j 90 10;load 5;seed 77;law time 7;law jam 3;";
        SackRace x = Check.told(one);
        SackRace y = Check.told(one);
        SackRace[] both = {x, y};
        for (SackRace z : both) {
            z.race(0, 0);
            z.go(2);
            z.sack(3);
            z.rain(true);
            z.keep();
            z.note(0, 0, 0, 21);
            z.note(0, 0, 0, 22);
            z.strike(1);
            z.known(1);
            z.go(1);
        }
        String[] faulty = {"lane b 5 5;man n 1 1 1;hold i 0 0 0;plan q i 9;judge k 1 1;load 9;seed 1;law time 1;law cost !",
            "law time (((", "lane a 1 1;lane a 1 1;", "!"};
        for (String text : faulty) {
            Check.due("a FAULT", Check.tell(x, text), -1);
        }
        for (int i = 0; i <= 10; i++) {
            Check.due("count(" + i + ")", x.count(i), y.count(i));
        }
        for (int i = 0; i <= 7; i++) {
            Check.due("now(" + i + ")", x.now(i), y.now(i));
        }
        Check.due("law", x.law(0, 0, 0, 5), 7);
        Check.due("law", x.law(1, 0, 0, 5), Long.MIN_VALUE);
        Check.due("rain", x.look(0, 3), 1);
        Check.due("name", x.named(0, Check.letters("a")), 0);
        Check.due("name", x.named(0, Check.letters("b")), -1);
        Check.due("fits", x.fits(0, 0), y.fits(0, 0));
        Check.due("errors", x.errors(1, 0), 10);
        Check.due("undo", x.undo(), y.undo());
        Check.due("back", x.back(), 2);
        y.back();
        x.go(1);
        y.go(1);
        Check.due("its numbers", x.now(1), y.now(1));
    }

    private static void fault() {
        Check.sentence("fault: Of the latest text() that was not -2");
        SackRace x = new SackRace();
        Check.due("-2", x.text(5), -2);
        Check.due("fault(0)", x.fault(0), 0);
        Check.due("fault(1)", x.fault(1), -1);
        Check.tell(x, "load 31;");
        Check.due("fault(0)", x.fault(0), 2);
        Check.due("fault(1)", x.fault(1), 5);
        Check.due("-2", x.text(99), -2);
        Check.due("fault(0)", x.fault(0), 2);
        Check.due("fault(1)", x.fault(1), 5);
        Check.tell(x, "load 30;load 30;");
        Check.due("fault(0)", x.fault(0), 3);
        Check.due("fault(1)", x.fault(1), 8);
        Check.sentence("fault: its FAULT (0), its place (NONE without)");
        Check.tell(x, "load 30;");
        Check.due("fault(0)", x.fault(0), 0);
        Check.due("fault(1)", x.fault(1), -1);
        Check.sentence("fault: NONE for another what");
        Check.due("fault(2)", x.fault(2), -1);
        Check.due("fault(-1)", x.fault(-1), -1);
    }

    private static void named() {
        Check.sentence("named: 5 bits each (a is 1; the first one highest of six, 0 behind the last one)");
        SackRace x = Check.told("man a 1 1 1;man z 1 1 1;man aaaaaa 1 1 1;man zzzzzz 1 1 1;man az 1 1 1;");
        Check.due("a", x.named(1, 1 << 25), 0);
        Check.due("z", x.named(1, 26 << 25), 1);
        Check.due("aaaaaa", x.named(1, 1 << 25 | 1 << 20 | 1 << 15 | 1 << 10 | 1 << 5 | 1), 2);
        Check.due("zzzzzz", x.named(1, 26 << 25 | 26 << 20 | 26 << 15 | 26 << 10 | 26 << 5 | 26), 3);
        Check.due("az", x.named(1, 1 << 25 | 26 << 20), 4);
        Check.sentence("named: NONE: there is none such");
        Check.due("aa", x.named(1, 1 << 25 | 1 << 20), -1);
        Check.due("a last", x.named(1, 1), -1);
        Check.due("a with a sign", x.named(1, 1 << 25 | 1 << 31), -1);
        Check.due("a with bit 30", x.named(1, 1 << 25 | 1 << 30), -1);
        Check.due("letter 27", x.named(1, 27 << 25), -1);
        Check.due("0", x.named(1, 0), -1);
        for (int what : new int[] {0, 2, 3, 4, 5, -1, Integer.MAX_VALUE, Integer.MIN_VALUE}) {
            Check.due("what " + what, x.named(what, 1 << 25), -1);
        }
        Check.due("of an empty TEXT", new SackRace().named(0, 0), -1);
        Check.tell(x, "man b 1 1 1;");
        Check.due("of the TEXT ahead", x.named(1, 1 << 25), -1);
        Check.due("of the TEXT ahead", x.named(1, 26 << 25), -1);
    }

    private static void withoutLoadAndSeed() {
        Check.sentence("the SACK (8 without)");
        SackRace x = Check.told("load 3;");
        Check.due("told", x.count(9), 3);
        Check.tell(x, "seed 4;");
        Check.due("without", x.count(9), 8);
        Check.tell(x, "load 0;");
        Check.due("0", x.count(9), 0);
        x.sack(20);
        Check.tell(x, "");
        Check.due("without", x.count(9), 8);
        Check.sentence("count: NONE for another what");
        Check.due("count(11)", x.count(11), -1);
        Check.due("count(-1)", x.count(-1), -1);
        Check.due("count(most)", x.count(Integer.MAX_VALUE), -1);
        Check.due("count(least)", x.count(Integer.MIN_VALUE), -1);
    }
}
