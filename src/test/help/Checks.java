/** What the tests share: answers are compared, objects are looked at, texts come on the pad. */
abstract class Checks {
    static final int NO_SUCH = -1, BAD_VALUE = -2, BAD_TEXT = -3, TOO_MANY = -4, NOT_POSSIBLE = -5, NONE = -6;
    static final int KEPT = 0, FOLLOWS = 1, AGAINST = 2;
    static final int LOW = Integer.MIN_VALUE, HIGH = Integer.MAX_VALUE;
    private static final int MOST_SHOWN = 100;

    static String part = "";
    static int compared = 0;
    static int wrong = 0;

    static void fail(String what) {
        wrong++;
        if (wrong <= MOST_SHOWN) {
            System.out.println(part + ": " + what);
        }
    }

    static void due(String call, long got, long want) {
        compared++;
        if (got != want) {
            fail(call + " answered " + got + ", due is " + want);
        }
    }

    static void same(String call, String got, String want) {
        compared++;
        if (!got.equals(want)) {
            fail(call + ": " + got + ", due is " + want);
        }
    }

    /** Ends the test, with exit code 1 if an answer was wrong. */
    static void finish() {
        System.out.println(wrong == 0 ? "all " + compared + " answers are as due" : wrong + " answers are not as due");
        if (wrong != 0) {
            System.exit(1);
        }
    }

    /** Everything that the object tells without a change. */
    static String all(ParityRules x) {
        StringBuilder text = new StringBuilder();
        for (int what = 0; what <= 8; what++) {
            text.append(x.count(what)).append(' ');
        }
        for (int rule = 0; rule < x.count(0); rule++) {
            text.append('|');
            for (int what = 0; what <= 5; what++) {
                text.append(x.rule(rule, what)).append(' ');
            }
        }
        return text.append('|').append(x.fault()).toString();
    }

    /** All but the pad and the history. */
    static String rules(ParityRules x) {
        StringBuilder text = new StringBuilder();
        text.append(x.count(6));
        for (int rule = 0; rule < x.count(0); rule++) {
            text.append(' ').append(x.rule(rule, 0)).append('=').append(x.rule(rule, 1)).append(':').append(x.rule(rule, 2));
        }
        return text.toString();
    }

    static long pack(String text) {
        long characters = 0;
        for (int i = 0; i < text.length(); i++) {
            characters = characters << 8 | text.charAt(i);
        }
        return characters;
    }

    static int put(ParityRules x, String text) {
        int answer = x.count(7);
        for (int i = 0; i < text.length(); i += 8) {
            answer = x.put(pack(text.substring(i, Math.min(i + 8, text.length()))));
        }
        return answer;
    }

    static ParityRules with(int choices, String text) {
        ParityRules x = new ParityRules();
        x.choices(choices);
        put(x, text);
        x.read();
        return x;
    }

    static void fault(String text, int want) {
        ParityRules x = new ParityRules();
        put(x, text);
        due("fault of " + text, x.fault(), want);
        due("fault of " + text + " again", x.fault(), want);
    }
    /** A rule so many times, as a text. */
    static String rows(int many, String rule) {
        StringBuilder text = new StringBuilder();
        for (int i = 0; i < many; i++) {
            text.append(i == 0 ? "" : ";").append(rule);
        }
        return text.toString();
    }

    /** Numbers that are not in a range, those beside it first. */
    static int[] outside(int lowest, int highest) {
        return new int[] {lowest - 1, highest + 1, lowest - 2, highest + 2, -7, 1000000, LOW, HIGH};
    }

    /** What an object holds, the text of the pad, the history and the slots, too; it is used up by that. */
    static String whole(ParityRules x) {
        StringBuilder text = new StringBuilder(all(x));
        for (int left = x.count(8); left > 0; left--) {
            text.append(" undo ").append(x.undo()).append(' ').append(rules(x));
        }
        for (int slot = 0; slot <= 1; slot++) {
            text.append(" slot ").append(x.restore(slot)).append(' ').append(rules(x));
        }
        while (x.count(0) > 0) {
            x.drop(0);
        }
        x.choices(12);
        // The end of a rule, where it is missing, so that the pad can be read.
        put(x, x.fault() == NONE ? "" : "1");
        return text.append(" pad ").append(x.read()).append(' ').append(rules(x)).toString();
    }
}
