/** What the tests share: telling a TEXT to an object, and counting answers that aren't due. */
final class Check {
    private static int wrong = 0;
    private static int asked = 0;
    private static String sentence = "";

    private Check() {
    }

    /** The sentence of the document that the answers asked for from now on belong to. */
    static void sentence(String words) {
        sentence = words + ": ";
    }

    static void due(String call, long got, long want) {
        asked++;
        if (got != want) {
            wrong++;
            System.out.println(sentence + call + " answered " + got + ", due is " + want);
        }
    }

    static void due(String call, boolean got, boolean want) {
        due(call, got ? 1 : 0, want ? 1 : 0);
    }

    /** Feeds all characters of a text, in blanks up to a multiple of twenty, and answers how many are its own. */
    static int feed(SackRace x, String text) {
        for (int i = 0; i < text.length(); i += 20) {
            x.feed(word(text, i), word(text, i + 4), word(text, i + 8), word(text, i + 12), word(text, i + 16));
        }
        return text.length();
    }

    static int word(String text, int at) {
        int word = 0;
        for (int i = at; i < at + 4; i++) {
            word = word << 8 | (i < text.length() ? text.charAt(i) & 255 : 32);
        }
        return word;
    }

    static int tell(SackRace x, String text) {
        return x.text(feed(x, text));
    }

    /** A new object with a text that must have no fault. */
    static SackRace told(String text) {
        SackRace x = new SackRace();
        if (tell(x, text) < 0) {
            wrong++;
            System.out.println(sentence + "fault " + x.fault(0) + " at " + x.fault(1) + " in " + text);
        }
        return x;
    }

    /** A text that must have this fault at this place. */
    static void faulty(String text, int fault, int place) {
        SackRace x = new SackRace();
        due("text of " + text, tell(x, text), -1);
        due("fault(0) of " + text, x.fault(0), fault);
        due("fault(1) of " + text, x.fault(1), place);
    }

    /** A text that must have no fault and so many LINES. */
    static void faultless(String text, int lines) {
        SackRace x = new SackRace();
        due("text of " + text, tell(x, text), lines);
        due("fault(0) of " + text, x.fault(0), 0);
        due("fault(1) of " + text, x.fault(1), -1);
    }

    /** Letters of a name as named() takes them. */
    static int letters(String name) {
        int letters = 0;
        for (int i = 0; i < 6; i++) {
            letters = letters << 5 | (i < name.length() ? name.charAt(i) - 'a' + 1 : 0);
        }
        return letters;
    }

    /** 0: it answers, 1: IndexOutOfBoundsException, 2: NoSuchElementException, 3: another one. */
    static int lookThrows(SackRace x, int stretch, int what) {
        try {
            x.look(stretch, what);
            return 0;
        } catch (IndexOutOfBoundsException e) {
            return e.getClass() == IndexOutOfBoundsException.class ? 1 : 3;
        } catch (java.util.NoSuchElementException e) {
            return 2;
        } catch (RuntimeException e) {
            return 3;
        }
    }

    static void finish(String test) {
        System.out.println(test + ": " + asked + " answers, " + wrong + " not as due");
        if (wrong != 0) {
            System.exit(1);
        }
    }
}
