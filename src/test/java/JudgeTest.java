/** Promises 38 to 40: down, errors, rule. */
public final class JudgeTest {
    public static void main(String[] args) {
        down();
        errors();
        rule();
        Check.finish("JudgeTest");
    }

    private static void likely(SackRace x, int ofHundred, int asked, int say, long above, long below) {
        String call = "down(" + ofHundred + ", " + asked + ", " + say + ")";
        Check.due(call, x.down(ofHundred, asked, say, 0), above);
        Check.due(call, x.down(ofHundred, asked, say, 1), below);
    }

    private static void down() {
        SackRace x = Check.told("judge a 90 10;judge b 60 30;judge c 100 0;judge d 0 0;");
        likely(x, 50, 3, 3, 18, 19);
        likely(x, 50, 3, 1, 36, 43);
        likely(x, 50, 1, 0, 1, 10);
        likely(x, 20, 2, 2, 1, 3);
        likely(x, 37, 0, 0, 37, 100);
        likely(x, 100, 0, 0, 1, 1);
        likely(x, 0, 3, 3, 0, 1);
        likely(x, 50, 4, 4, 1, 1);
        likely(x, 50, 4, 0, 0, 1);
        likely(x, 50, 8, 8, 0, 1);
        likely(x, 50, 12, 8, 0, 1);
        likely(x, 0, 4, 4, 0, 1);
        likely(x, 100, 4, 0, 0, 1);
        likely(x, -1, 0, 0, -1, -1);
        likely(x, 101, 0, 0, -1, -1);
        likely(x, 50, 16, 0, -1, -1);
        likely(x, 50, -1, 0, -1, -1);
        likely(x, 50, 1, 2, -1, -1);
        likely(x, 50, 0, 1, -1, -1);
        likely(x, 50, 15, -1, -1, -1);
        Check.due("what 2", x.down(50, 0, 0, 2), -1);
        Check.due("what -1", x.down(50, 0, 0, -1), -1);
        SackRace y = Check.told("judge a 97 89;judge b 97 89;judge c 97 89;judge d 97 89;");
        likely(y, 97, 15, 15, 97L * 97 * 97 * 97 * 97, 97L * 97 * 97 * 97 * 97 + 3L * 89 * 89 * 89 * 89);
    }

    private static void errors() {
        SackRace x = Check.told("judge a 90 10;judge b 60 30;");
        int[] missed = {0, 400, 4600, 10000, 10000, 10000};
        int[] wrong = {10000, 3700, 300, 0, 0, 0};
        for (int k = 0; k <= 5; k++) {
            Check.due("missed " + k, x.errors(k, 0), missed[k]);
            Check.due("wrong " + k, x.errors(k, 1), wrong[k]);
        }
        Check.due("k 6", x.errors(6, 0), -1);
        Check.due("k -1", x.errors(-1, 0), -1);
        Check.due("what 2", x.errors(0, 2), -1);
        Check.due("what -1", x.errors(0, -1), -1);
        SackRace y = Check.told("judge a 90 10;judge b 90 10;judge c 90 10;judge d 90 10;");
        Check.due("two of four, missed", y.errors(2, 0), 10000 + 4 * 90000);
        Check.due("two of four, wrong", y.errors(2, 1), 100000000 - 65610000 - 29160000);
        Check.due("five of four, missed", y.errors(5, 0), 100000000);
        SackRace z = new SackRace();
        Check.due("no judges", z.errors(0, 1), 1);
        Check.due("no judges", z.errors(3, 0), 1);
    }

    private static void rule() {
        Check.due("no judges", new SackRace().rule(), 0);
        Check.due("one", Check.told("judge a 90 10;").rule(), 1);
        Check.due("one who is always wrong", Check.told("judge a 0 100;").rule(), 0);
        Check.due("one who can't tell", Check.told("judge a 50 50;").rule(), 0);
        Check.due("two", Check.told("judge a 90 10;judge b 60 30;").rule(), 1);
        Check.due("two who say so too often", Check.told("judge a 100 50;judge b 100 50;").rule(), 2);
        Check.due("four", Check.told("judge a 90 10;judge b 90 10;judge c 90 10;judge d 90 10;").rule(), 2);
        Check.due("four who say so too often", Check.told("judge a 100 50;judge b 100 50;judge c 100 50;judge d 100 50;").rule(), 4);
    }
}
