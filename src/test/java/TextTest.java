/** Promises 1 to 5 and 43: a new object, feed, text, fault, named, count. */
public final class TextTest {
    public static void main(String[] args) {
        newObject();
        feed();
        text();
        cuts();
        textReplaces();
        faultsOfTokens();
        faultsOfRows();
        faultsOfExpressions();
        named();
        count();
        Check.finish("TextTest");
    }

    private static void newObject() {
        SackRace x = new SackRace();
        for (int i = 0; i <= 10; i++) {
            Check.due("new count(" + i + ")", x.count(i), i == 9 ? 8 : 0);
        }
        Check.due("new now(0)", x.now(0), -1);
        Check.due("new back()", x.back(), -1);
        Check.due("new fault(0)", x.fault(0), 0);
        Check.due("new fault(1)", x.fault(1), -1);
        Check.due("new text(1)", x.text(1), -2);
        Check.due("new text(0)", x.text(0), 0);
    }

    private static void feed() {
        SackRace x = new SackRace();
        for (int i = 1; i <= 35; i++) {
            Check.due("feed " + i, x.feed(0x20202020, 0x0a0a0a0a, 0, -1, 0x3b3b3b3b), 20 * i);
        }
        Check.due("feed beyond 700", x.feed(0, 0, 0, 0, 0), -1);
        Check.due("text(701)", x.text(701), -2);
        Check.due("text(-1)", x.text(-1), -2);
        Check.due("text(9) of blanks and a byte 0", x.text(9), -1);
        Check.due("fault", x.fault(0) * 1000 + x.fault(1), 1008);
        Check.due("the tape is empty", x.feed(0, 0, 0, 0, 0), 20);
        SackRace y = new SackRace();
        y.feed(0x6c6f6164, 0x20313b6c, 0x6f616420, 0x313b6c6f, 0x61642031);
        Check.due("highest byte first", y.text(7), 1);
        Check.due("load 1", y.count(9), 1);
    }

    private static void text() {
        SackRace x = new SackRace();
        Check.due("no lines", Check.tell(x, " \n "), 0);
        Check.due("lines", Check.tell(x, "load 7;seed 0;\nlane a1 0;lane\nb 20 9 bend wet;"), 4);
        Check.due("load", x.count(9), 7);
        Check.due("bytes behind n are no text", Check.feed(x, "load 5;!!!!") > 0 ? x.text(7) : -5, 1);
        Check.due("not so many", x.text(1), -2);
        Check.due("fault(0)", x.fault(0), 0);
        Check.due("fault(1)", x.fault(1), -1);
        Check.tell(x, "load");
        x.text(5);
        Check.due("fault(0) behind -2", x.fault(0), 1);
        Check.due("fault(1) behind -2", x.fault(1), 4);
        Check.due("fault(2)", x.fault(2), -1);
        Check.due("fault(-1)", x.fault(-1), -1);
        Check.due("all stays", x.count(9), 5);
        Check.due("limits", Check.tell(x, "lane a 20 9;man m 60 40 30;man n 1 1 1;hold h 9 99 99;hold i 0 0 0;"
            + "plan p h 9 1 9 1 9 1;judge j 100 100;judge k 0 0;load 30;seed 99999;law time 9999;"), 11);
        Check.due("leading noughts", Check.tell(x, "load 00000000000000000007;"), 1);
        Check.due("load", x.count(9), 7);
        Check.due("no blanks needed", Check.tell(x, "man m1 1 1;law time(pace<>1)and not 2;"), 2);
    }

    /** Bytes of the TAPE behind the first n don't belong to the last word, number or sign. */
    private static void cut(String text, int n, int place) {
        SackRace x = new SackRace();
        Check.feed(x, text);
        Check.due(text + " cut at " + n, x.text(n), -1);
        Check.due(text + " cut at " + n, x.fault(0), 1);
        Check.due(text + " cut at " + n, x.fault(1), place);
    }

    private static void cuts() {
        cut("load 55;", 6, 6);
        cut("loadx 5;", 4, 4);
        cut("law time 1 <= 2;", 12, 12);
        cut("law time 1 <> 2;", 12, 12);
        cut("law time 1 >= 2;", 12, 12);
        cut("load 5;", 6, 6);
        cut("load 5;", 2, 0);
    }

    private static void textReplaces() {
        String one = "lane a 3 0;man m 9 9 9;hold h 0 0 1;plan p h 3;load 5;seed 77;";
        SackRace x = Check.told(one);
        x.race(0, 0);
        x.go(2);
        x.rain(true);
        x.sack(9);
        x.note(0, 0, 0, 5);
        x.known(0);
        x.keep();
        Check.due("fault stays all", Check.tell(x, "load 1;load"), -1);
        Check.due("race stays", x.now(0), 2);
        Check.due("undo stays", x.count(8), 2);
        Check.due("split stays", x.count(6), 1);
        Check.due("known stays", x.count(7), 0);
        Check.due("sack stays", x.count(9), 9);
        Check.due("rain stays", x.look(0, 3), 1);
        Check.due("image stays", x.back(), 2);
        x.go(1);
        Check.due("text", Check.tell(x, one), 6);
        Check.due("no race", x.now(0), -1);
        Check.due("no undo", x.undo(), -1);
        Check.due("no splits", x.count(6), 0);
        x.note(0, 0, 0, 5);
        Check.due("all known", x.count(7), 1);
        Check.due("sack", x.count(9), 5);
        Check.due("no rain", x.look(0, 3), 0);
        Check.due("no image", x.back(), -1);
    }

    private static void faultsOfTokens() {
        Check.faulty("!", 1, 0);
        Check.faulty("load 5; A", 1, 8);
        Check.faulty("load 5\t;", 1, 6);
        Check.faulty("load 5 " + (char) 200 + ";", 1, 7);
        Check.faulty("lanes a 1 1;", 1, 0);
        Check.faulty("lanelan a 1 1;", 1, 0);
        Check.faulty(";", 1, 0);
        Check.faulty("5;", 1, 0);
        Check.faulty("bend;", 1, 0);
        Check.faulty("time 5;", 1, 0);
        Check.faulty("load 5", 1, 6);
        Check.faulty("load 5  \n", 1, 9);
        Check.faulty("load", 1, 4);
        Check.faulty("load x;", 1, 5);
        Check.faulty("load -5;", 1, 5);
        Check.faulty("load 5 5;", 1, 7);
        Check.faulty("seed 5 load 5;", 1, 7);
    }

    private static void faultsOfRows() {
        Check.faulty("lane abcdefg 1 1;", 1, 5);
        Check.faulty("lane lane 1 1;", 1, 5);
        Check.faulty("lane wind 1 1;", 1, 5);
        Check.faulty("man not 1 1 1;", 1, 4);
        Check.faulty("man harm 1 1 1;", 1, 4);
        Check.faulty("lane 1 1;", 1, 5);
        Check.faulty("lane a 21 1;", 2, 7);
        Check.faulty("lane a 0 1;", 2, 7);
        Check.faulty("lane a 20 10;", 2, 10);
        Check.faulty("lane a 99999999999999999999 1;", 2, 7);
        Check.faulty("lane a 1;", 1, 8);
        Check.faulty("lane a 1 1 1;", 1, 11);
        Check.faulty("lane a 1 1 wet wet;", 1, 15);
        Check.faulty("lane a 1 1 bend bend;", 1, 16);
        Check.faulty("man m 0 1 1;", 2, 6);
        Check.faulty("man m 1 0 1;", 2, 8);
        Check.faulty("man m 1 1 0;", 2, 10);
        Check.faulty("man m 1 1 1 wet;", 1, 12);
        Check.faulty("hold h 0 100 0;", 2, 9);
        Check.faulty("hold h 0 0 100;", 2, 11);
        Check.faulty("hold h 0 0 0;hold h 0 0 0;", 3, 18);
        Check.faulty("man h 1 1 1;man h 1 1 1;", 3, 16);
        Check.faulty("judge j 0 101;", 2, 10);
        Check.faulty("hold h 0 0 0;plan h h 1;plan h h 1;", 3, 29);
        Check.faulty("hold h 0 0 0;plan p h 0;", 2, 22);
        Check.faulty("hold h 0 0 0;plan p g 1;", 4, 20);
        Check.faulty("hold h 0 0 0;plan p load 1;", 1, 20);
        Check.faulty("hold h 0 0 0;plan p 1;", 1, 20);
        Check.faulty("plan p h 1;hold h 0 0 0;", 4, 7);
        Check.faulty("hold h 0 0 0;plan p h 1 1 1 1 1 1 77;", 2, 34);
        Check.faulty("hold h 0 0 0;plan p h 1 1 1 1 1 1 1;", 2, 34);
        Check.faulty("hold h 0 0 0;plan p h 1 x;", 1, 24);
        Check.faulty("load 1;seed 1;seed 1;", 3, 14);
        Check.faulty("seed 1;load 31;", 2, 12);
        StringBuilder lanes = new StringBuilder();
        for (char c = 'a'; c <= 'f'; c++) {
            lanes.append("lane ").append(c).append(" 1 1;");
        }
        Check.faulty(lanes + "lane lane", 2, 66);
    }

    private static void faultsOfExpressions() {
        Check.faulty("law", 1, 3);
        Check.faulty("law speed 1;", 1, 4);
        Check.faulty("law pace 1;", 1, 4);
        Check.faulty("law time", 1, 8);
        Check.faulty("law time 10000;", 2, 9);
        Check.faulty("law time 1 1;", 1, 11);
        Check.faulty("law time 1 +;", 1, 12);
        Check.faulty("law time + 1;", 1, 9);
        Check.faulty("law time 1 - - 1;", 1, 13);
        Check.faulty("law time 1 < 2 < 3;", 1, 15);
        Check.faulty("law time 1 = 2 + 3 <> 3;", 1, 19);
        Check.faulty("law time 1 < = 2;", 1, 13);
        Check.faulty("law time 1 < > 2;", 1, 13);
        Check.faulty("law time 1 > < 2;", 1, 13);
        Check.faulty("law time 1 =< 2;", 1, 12);
        Check.faulty("law time 1 <== 2;", 1, 13);
        Check.faulty("law time 1 + not 2;", 1, 13);
        Check.faulty("law time 1 < not 2;", 1, 13);
        Check.faulty("law time 1 not 2;", 1, 11);
        Check.faulty("law time (1;", 1, 11);
        Check.faulty("law time (1", 1, 11);
        Check.faulty("law time 1);", 1, 10);
        Check.faulty("law time ();", 1, 10);
        Check.faulty("law time 1 (2);", 1, 11);
        Check.faulty("law time 1 and or 2;", 1, 15);
        Check.faulty("law time load;", 1, 9);
        Check.faulty("law time lane;", 1, 9);
        Check.faulty("law time wide;", 1, 9);
        Check.faulty("law time not;", 1, 12);
        Check.faulty("law cost 1;law time 1;law cost", 3, 26);
        Check.faulty("law time ((((((((1))))))))+(((((((((", 2, 35);
        String ones = "1+1+1+1+1+1+1+1+1+1+1+1+1+1+1+1";
        SackRace x = new SackRace();
        Check.due("62 knots", Check.tell(x, "law time " + ones + ";law cost " + ones + ";"), 2);
        Check.due("62 knots", x.count(4), 62);
        Check.due("64 knots", Check.tell(x, "law time " + ones + ";law cost " + ones + ";law gain not (((pace)));"), 3);
        Check.due("64 knots", x.count(4), 64);
        Check.tell(x, "lane a 1 1;man m 1 1 1;law cost " + ones + ";law time " + ones + " <> 16;");
        Check.due("the last of 64 knots counts", x.law(0, 0, 0, 1), 0);
        Check.faulty("law time " + ones + ";law cost " + ones + ";law gain not not 1;", 2, 99);
        Check.faulty("law time " + ones + ";law cost " + ones + ";law gain 1 + 10000;", 2, 95);
        Check.faulty("law time " + ones + ";law cost " + ones + ";law gain 1 + load;", 1, 95);
        Check.faulty("law time " + ones + ";law cost " + ones + ";law gain 1 + 1 1;", 2, 95);
        Check.due("eight open again and again", Check.tell(x, "law time ((((((((1))))))))+((((((((1))))))));"), 1);
    }

    private static void named() {
        SackRace x = Check.told("lane a 1 1;lane abcdef 1 1;lane zz 1 1;man a 1 1 1;man b 1 1 1;hold zz 0 0 0;"
            + "plan q zz 1;plan a zz 1;judge zzzzzz 1 1;");
        Check.due("stretch a", x.named(0, Check.letters("a")), 0);
        Check.due("stretch abcdef", x.named(0, Check.letters("abcdef")), 1);
        Check.due("stretch zz", x.named(0, Check.letters("zz")), 2);
        Check.due("stretch abcde", x.named(0, Check.letters("abcde")), -1);
        Check.due("stretch b", x.named(0, Check.letters("b")), -1);
        Check.due("man b", x.named(1, Check.letters("b")), 1);
        Check.due("hold zz", x.named(2, Check.letters("zz")), 0);
        Check.due("hold a", x.named(2, Check.letters("a")), -1);
        Check.due("plan a", x.named(3, Check.letters("a")), 1);
        Check.due("judge zzzzzz", x.named(4, Check.letters("zzzzzz")), 0);
        Check.due("no letters", x.named(0, 0), -1);
        Check.due("behind the place", x.named(0, 1), -1);
        Check.due("below 0", x.named(0, -1), -1);
        Check.due("what 5", x.named(5, Check.letters("a")), -1);
        Check.due("what -1", x.named(-1, Check.letters("a")), -1);
    }

    private static void count() {
        SackRace x = Check.told("lane a 20 1;lane b 3 1;man m 5 5 5;man n 5 5 5;man o 5 5 5;hold h 1 1 1;hold i 1 1 1;"
            + "plan p h 1;plan q h 1;plan r h 1;plan s h 1;judge j 1 1;law time pace + (1);load 3;");
        int[] due = {2, 3, 2, 4, 3, 23, 0, 0, 0, 3, 1};
        for (int i = 0; i < due.length; i++) {
            Check.due("count(" + i + ")", x.count(i), due[i]);
        }
        Check.due("count(11)", x.count(11), -1);
        Check.due("count(-1)", x.count(-1), -1);
        x.note(0, 0, 0, 1);
        x.note(0, 0, 0, 1);
        x.strike(0);
        Check.due("splits", x.count(6), 3);
        Check.due("known by all", x.count(7), 3);
        x.known(2);
        Check.due("known by two", x.count(7), 2);
        x.race(0, 0);
        x.go(4);
        Check.due("undoable", x.count(8), 4);
        x.sack(30);
        Check.due("sack", x.count(9), 30);
    }
}
