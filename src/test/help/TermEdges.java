import java.util.ArrayList;
import java.util.List;
import java.util.function.ToIntFunction;

/** The boundary cases of "What it is", of the conventions, and of the terms but for the texts. */
final class TermEdges extends Checks {
    private static final String ABOUT = "What it is", FACE = "The public face", TERMS = "Terms", TEXTS = "Texts";
    private static final int KINDS = 6;
    private static final long[] WRONG_CHARACTERS = {0, 32, 127, -1, Long.MIN_VALUE, 0x3000, 0x100000030L, 0x3030303030303020L};

    @Edge(in = ABOUT, says = "An object is used for at most 512 calls after it has been made; what later calls answer is free.")
    static void callsToTheLast() {
        ParityRules x = new ParityRules();
        for (int i = 0; i < 85; i++) {
            due("put", x.put('1'), 1);
            due("put", x.put(pack("=1")), 3);
            due("read", x.read(), 1);
            due("tell", x.tell(2, 0), AGAINST);
            due("drop", x.drop(0), 1);
            due("drop", x.drop(0), 0);
        }
        due("call 511", x.count(8), 6);
        due("call 512", x.tell(63, 1), KEPT);
        for (int i = 0; i < 100; i++) {
            // Free is what these answer, not whether they end.
            x.tell(1, 0);
            x.put('0');
            x.fault();
        }
    }

    @Edge(in = FACE, says = "public static final int NO_SUCH = -1, BAD_VALUE = -2, BAD_TEXT = -3, TOO_MANY = -4, NOT_POSSIBLE = -5, NONE = -6;")
    static void errorCodes() {
        due("NO_SUCH", ParityRules.NO_SUCH, -1);
        due("BAD_VALUE", ParityRules.BAD_VALUE, -2);
        due("BAD_TEXT", ParityRules.BAD_TEXT, -3);
        due("TOO_MANY", ParityRules.TOO_MANY, -4);
        due("NOT_POSSIBLE", ParityRules.NOT_POSSIBLE, -5);
        due("NONE", ParityRules.NONE, -6);
    }

    @Edge(in = TEXTS, says = "`KEPT = 0, FOLLOWS = 1, AGAINST = 2`: States of rules.")
    static void states() {
        due("KEPT", ParityRules.KEPT, 0);
        due("FOLLOWS", ParityRules.FOLLOWS, 1);
        due("AGAINST", ParityRules.AGAINST, 2);
    }

    @Edge(in = TEXTS, says = "`NO_SUCH = -1, BAD_VALUE = -2, BAD_TEXT = -3, TOO_MANY = -4, NOT_POSSIBLE = -5, NONE = -6`: Error codes, and NONE: there is none.")
    static void eachCodeIsAnswered() {
        ParityRules x = with(6, rows(20, "0=0"));
        due("a rule that is not there", x.drop(20), -1);
        due("a choice that is not there", x.tell(64, 0), -2);
        due("no text", x.read(), -3);
        due("rule 21", x.tell(1, 0), -4);
        due("nothing saved", x.restore(0), -5);
        due("no reason", x.rule(0, 3), -6);
    }

    @Edge(in = TERMS, says = "A method that fails returns one of the error codes NO_SUCH (-1), BAD_VALUE (-2), BAD_TEXT (-3), TOO_MANY (-4) and NOT_POSSIBLE (-5); it names its errors in the order in which they are checked, and the first one that applies is returned.")
    static void theFirstErrorIsReturned() {
        ParityRules x = new ParityRules();
        due("restore: no slot, nothing saved", x.restore(2), BAD_VALUE);
        due("rule: no rule, no such what", x.rule(0, 6), NO_SUCH);
        due("choice: no choice, no such what", x.choice(6, 3), NO_SUCH);
        due("choice: no choice, no such what", x.choice(-1, -1), NO_SUCH);
        x.tell(32, 1);
        due("choices: out of range, a rule without its choice", x.choices(0), BAD_VALUE);
        due("choices: out of range, a rule without its choice", x.choices(-1), BAD_VALUE);
        put(x, "6=0;");
        due("read: a fault, a choice that is not there", x.read(), BAD_TEXT);
        x.wipe();
        put(x, rows(19, "0=0") + ";6=0");
        due("read: a choice that is not there, too many", x.read(), BAD_VALUE);
        put(x, ";");
        due("read: a fault, a choice that is not there, too many", x.read(), BAD_TEXT);
        x.wipe();
        put(x, rows(20, "0=0") + ";");
        due("read: a fault, too many", x.read(), BAD_TEXT);
        due("put: a bad code, too many", x.put(32), BAD_VALUE);
        due("put: no character, too many", x.put(0), BAD_VALUE);
        due("put: a bit above, too many", x.put(0x10000000030L), BAD_VALUE);
        x = with(6, rows(20, "0=0"));
        due("tell: a bad set, too many", x.tell(0, 0), BAD_VALUE);
        due("tell: a bad set, too many", x.tell(64, 0), BAD_VALUE);
        due("tell: a bad sum, too many", x.tell(1, 2), BAD_VALUE);
    }

    @Edge(in = TERMS, says = "A call that returns an error changes nothing.")
    static void errorsChangeNothing() {
        for (int kind = 0; kind < KINDS; kind++) {
            for (ToIntFunction<ParityRules> call : wrongCalls()) {
                ParityRules called = object(kind);
                int answer = call.applyAsInt(called);
                if (answer < 0 && answer != NONE) {
                    same("object " + kind + " after the error " + answer, whole(called), whole(object(kind)));
                }
            }
        }
    }

    /** New, full of rules, without room on the pad, with a history and slots, each with another pad. */
    private static ParityRules object(int kind) {
        ParityRules x = kind == 0 ? new ParityRules() : with(12, kind == 1 ? rows(20, "0+11=1") : "0=1;0+1=0;1=0;11=1");
        if (kind == 2) {
            put(x, rows(20, "2=0") + "+");
        }
        if (kind >= 3) {
            x.save(1);
            x.turn(0);
            x.move(0, 2);
            put(x, kind == 3 ? "0=0;0=1" : "0=0;0=");
        }
        if (kind >= 5) {
            x.drop(3);
            x.choices(4);
            x.save(0);
            x.tell(9, 1);
            put(x, "0;11=1");
        }
        return x;
    }

    /** Calls of all methods that can fail, with numbers that are wrong in some states or in all. */
    private static List<ToIntFunction<ParityRules>> wrongCalls() {
        List<ToIntFunction<ParityRules>> calls = new ArrayList<>();
        calls.add(ParityRules::read);
        calls.add(ParityRules::undo);
        for (int n : new int[] {-1, 0, 1, 2, 3, 4, 9, 11, 13, 20, 4096, LOW, HIGH}) {
            calls.add(x -> x.choices(n));
            calls.add(x -> x.tell(n, 0));
            calls.add(x -> x.tell(1, n));
            calls.add(x -> x.drop(n));
            calls.add(x -> x.move(n, 0));
            calls.add(x -> x.move(0, n));
            calls.add(x -> x.turn(n));
            calls.add(x -> x.rule(n, 0));
            calls.add(x -> x.rule(0, n));
            calls.add(x -> x.choice(n, 0));
            calls.add(x -> x.choice(0, n));
            calls.add(x -> x.count(n));
            calls.add(x -> x.answer(n));
            calls.add(x -> x.known(n));
            calls.add(x -> x.nearest(n, 0));
            calls.add(x -> x.nearest(0, n));
            calls.add(x -> x.best(n));
            calls.add(x -> x.ifTold(n, 0));
            calls.add(x -> x.ifTold(1, n));
            calls.add(x -> x.ifDropped(n));
            calls.add(x -> x.ifMoved(n, 0));
            calls.add(x -> x.ifMoved(0, n));
            calls.add(x -> x.save(n));
            calls.add(x -> x.restore(n));
        }
        for (long characters : WRONG_CHARACTERS) {
            calls.add(x -> x.put(characters));
        }
        calls.add(x -> x.put(pack("0=0;0=0;")));
        return calls;
    }
    @Edge(in = TEXTS, says = "---- answers; nothing changes.")
    static void answersChangeNothing() {
        for (int kind = 0; kind < KINDS; kind++) {
            ParityRules asked = object(kind);
            for (int n = -1; n <= 64; n++) {
                asked.answer(n);
                asked.known(n);
                asked.nearest(n, 0);
                asked.nearest(n, 1);
                asked.best(n);
            }
            same("object " + kind, whole(asked), whole(object(kind)));
        }
    }

    @Edge(in = TEXTS, says = "---- what if; nothing changes.")
    static void whatIfChangesNothing() {
        for (int kind = 0; kind < KINDS; kind++) {
            ParityRules asked = object(kind);
            for (int n = -1; n <= 20; n++) {
                asked.ifTold(n, 0);
                asked.ifTold(n, 1);
                asked.ifDropped(n);
                asked.ifMoved(n, 0);
                asked.ifMoved(0, n);
            }
            same("object " + kind, whole(asked), whole(object(kind)));
        }
    }

    @Edge(in = TERMS, says = "NONE (-6) is not an error; it is returned only if no error applies.")
    static void noneComesBehindTheErrors() {
        ParityRules x = new ParityRules();
        due("known, open", x.known(63), NONE);
        due("known, no set", x.known(64), BAD_VALUE);
        due("choice, open", x.choice(5, 0), NONE);
        due("choice, not there", x.choice(6, 0), NO_SUCH);
        x.tell(1, 1);
        due("rule, kept", x.rule(0, 3), NONE);
        due("rule, not there", x.rule(1, 3), NO_SUCH);
    }

    @Edge(in = TERMS, says = "Everything is numbered from 0.")
    static void everythingBeginsWithNought() {
        ParityRules x = new ParityRules();
        due("tell", x.tell(1, 1), KEPT);
        due("rule 0", x.rule(0, 0), 1);
        due("rule 1", x.rule(1, 0), NO_SUCH);
        due("choice 0", x.choice(0, 0), 1);
        due("choice 1", x.choice(1, 0), NONE);
        due("answer 0", x.answer(0), 1);
        due("answer 31", x.answer(31), 63);
        due("answer 32", x.answer(32), NO_SUCH);
        due("slot 0", x.save(0), 1);
        x.put('a');
        due("character 0", x.fault(), 0);
    }

    @Edge(in = TERMS, says = "There are CHOICES choices, numbered from 0 (1 to 12 of them; 6 at first).")
    static void oneToTwelveChoices() {
        ParityRules x = new ParityRules();
        due("at first", x.count(6), 6);
        for (int many = 1; many <= 12; many++) {
            x.choices(many);
            due("CHOICES", x.count(6), many);
            due("the last one", x.choice(many - 1, 1), 0);
            due("behind the last one", x.choice(many, 1), NO_SUCH);
            due("all of them", x.known((1 << many) - 1), NONE);
            due("one more", x.known(1 << many), BAD_VALUE);
        }
    }

    @Edge(in = TERMS, says = "A set of choices, and an answer, is a bit mask: the choice c is the bit c (in an answer: whether it is taken).")
    static void eachChoiceIsItsBit() {
        for (int c = 0; c < 12; c++) {
            ParityRules x = with(12, "");
            due("tell", x.tell(1 << c, 1), KEPT);
            due("it is in the rule", x.choice(c, 1), 1);
            due("it is taken", x.choice(c, 0), 1);
            due("settled", x.count(5), 1 << c);
            due("the lowest answer", x.answer(0), 1 << c);
            due("the highest answer", x.answer(2047), 4095);
        }
    }

    @Edge(in = TERMS, says = "The sum of a set in an answer is 1 if the answer takes an odd number of its choices, otherwise 0.")
    static void sumsFromNoneToTwelve() {
        ParityRules x = with(12, "0=1;1=1;2=1;3=1;4=1;5=1;6=1;7=1;8=1;9=1;10=1;11=1");
        for (int many = 0; many <= 12; many++) {
            due("of " + many + " choices", x.known((1 << many) - 1), many % 2);
        }
        for (int rule = 0; rule < 12; rule++) {
            x.turn(rule);
        }
        for (int many = 0; many <= 12; many++) {
            due("of " + many + " choices, none taken", x.known((1 << many) - 1), 0);
        }
    }

    @Edge(in = TERMS, says = "A rule is a set of choices, which is not empty, and a sum, 0 or 1.")
    static void ruleIsNotEmpty() {
        ParityRules x = new ParityRules();
        for (int sum = 0; sum <= 1; sum++) {
            due("the empty set", x.tell(0, sum), BAD_VALUE);
            due("the empty set", x.ifTold(0, sum), BAD_VALUE);
            due("one choice", x.tell(1 << sum, sum), KEPT);
            due("its sum", x.rule(sum, 1), sum);
        }
        fault("=0", 0);
        fault("=1", 0);
    }

    @Edge(in = TERMS, says = "There are up to 20 rules, in a row, numbered by their places in it.")
    static void upToTwentyRules() {
        ParityRules x = new ParityRules();
        for (int i = 0; i < 20; i++) {
            due("rule " + i + ", not yet", x.rule(i, 0), NO_SUCH);
            due("tell", x.tell(i + 1, 0) < 0 ? 1 : 0, 0);
            due("rule " + i, x.rule(i, 0), i + 1);
        }
        due("rules", x.count(0), 20);
        due("one more", x.tell(1, 0), TOO_MANY);
        due("rule 20", x.rule(20, 0), NO_SUCH);
    }

    @Edge(in = TERMS, says = "An answer fits a rule if the sum of its set in the answer is that of the rule.")
    static void allAnswersFitOrNone() {
        ParityRules x = with(1, "0=1;0=1;0=0");
        due("answers", x.count(4), 1);
        due("the answer", x.answer(0), 1);
        due("kept", x.rule(0, 5), 1);
        due("follows", x.rule(1, 5), 1);
        due("against", x.rule(2, 5), 0);
        x.turn(0);
        due("the answer", x.answer(0), 0);
    }

    @Edge(in = TERMS, says = "Each rule has a state, by the rules ahead of it: KEPT (0) if its set is no combination of the sets of the kept rules ahead of it;")
    static void nothingIsAheadOfTheFirst() {
        for (int set = 1; set < 64; set++) {
            ParityRules x = new ParityRules();
            due("ifTold " + set, x.ifTold(set, 0), KEPT);
            due("tell " + set, x.tell(set, 1), KEPT);
            due("tell " + set, x.tell(set, 1), FOLLOWS);
            due("the first one, whatever is behind it", x.rule(0, 2), KEPT);
        }
    }

    @Edge(in = TERMS, says = "otherwise it FOLLOWS (1) if the same combination of their sums is its sum, and is AGAINST (2) them if not.")
    static void onlyKeptRulesCount() {
        ParityRules x = with(6, "0=0;0=1;0=1;1=1;1=0;0+1=1;0+1=0");
        same("rules", rules(x), "6 1=0:0 1=1:2 1=1:2 2=1:0 2=0:2 3=1:1 3=0:2");
        x = with(12, "0=1;1=1;2=1;3=1;4=1;5=1;6=1;7=1;8=1;9=1;10=1;11=1");
        due("of twelve", x.ifTold(4095, 0), FOLLOWS);
        due("of twelve", x.ifTold(4095, 1), AGAINST);
        due("of eleven", x.ifTold(2047, 1), FOLLOWS);
        due("of eleven", x.ifTold(2047, 0), AGAINST);
        due("kept", x.count(1), 12);
    }

    @Edge(in = TERMS, says = "(A combination of sets has the choices that are in an odd number of them; a combination of sums is 1 if an odd number of them is 1.)")
    static void combinations() {
        ParityRules x = with(4, "0+1+2=1;0+1+3=1;0+2+3=1");
        due("0 is in all three", x.ifTold(1, 1), FOLLOWS);
        due("0 is in all three", x.ifTold(1, 0), AGAINST);
        due("0 and 1 are in two", x.ifTold(12, 0), FOLLOWS);
        due("0 and 1 are in two", x.ifTold(12, 1), AGAINST);
        due("of one", x.ifTold(7, 1), FOLLOWS);
        due("of none of them", x.ifTold(2, 0), KEPT);
    }

    @Edge(in = TERMS, says = "The reason of a rule that is not kept is the set of kept rules ahead of it whose combination is its set, as a bit mask of rules. (There is just one.)")
    static void reasonsFromOneToTwelveRules() {
        ParityRules x = with(12, rows(8, "0=1") + ";1=0;2=0;3=0;4=0;5=0;6=0;7=0;8=0;9=0;10=0");
        x.tell(2048, 1);
        x.tell(4095, 0);
        due("of one, the first", x.rule(7, 3), 1);
        due("of twelve", x.rule(19, 3), 1 | 0x7ff00);
        due("none", x.rule(18, 3), NONE);
        x.move(18, 0);
        due("places move", x.rule(19, 3), 3 | 0x7fe00);
        x.move(0, 19);
        due("what is behind does not count", x.rule(18, 2), KEPT);
        due("the last one has a reason then", x.rule(19, 3), 1 | 0x7ff00);
        x = with(4, "0+1=0;0+2=0;0+3=0;0+2=1;0+3=0;1+3=0");
        due("no more rules than it takes", x.rule(3, 3), 2);
        due("no more rules than it takes", x.rule(4, 3), 4);
        due("no more rules than it takes", x.rule(5, 3), 5);
    }

    @Edge(in = TERMS, says = "The answers are those that fit all kept rules, as numbers in ascending order.")
    static void answersFromOneToAll() {
        ParityRules x = with(12, "");
        for (int place = 0; place < 4096; place += 455) {
            due("without rules", x.answer(place), place);
        }
        for (int c = 11; c >= 0; c--) {
            x.tell(4095 >> c, 0);
            due("answers", x.count(4), 1 << c);
            due("the lowest one", x.answer(0), 0);
            due("the highest one", x.answer((1 << c) - 1), highest(c));
        }
        x.tell(1, 1);
        due("a rule against takes none away", x.count(4), 1);
        x = with(3, "0+2=1;1+2=1");
        due("the lower one", x.answer(0), 3);
        due("the higher one", x.answer(1), 4);
    }

    /** The answer that takes the highest choices, so many of twelve. */
    private static int highest(int free) {
        return 4096 - (1 << (12 - free));
    }
}
