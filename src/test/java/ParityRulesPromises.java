import java.lang.reflect.Modifier;

/** The promises of the document one by one: ordinary inputs, the edges it names, and wrong inputs. */
public final class ParityRulesPromises extends Checks {
    private static final String ROW_OF_TWENTY =
        "0=0;0=0;0=0;0=0;0=0;0=0;0=0;0=0;0=0;0=0;0=0;0=0;0=0;0=0;0=0;0=0;0=0;0=0;0=0;0=1";

    private static void constants() {
        part = "constants";
        due("NO_SUCH", ParityRules.NO_SUCH, -1);
        due("BAD_VALUE", ParityRules.BAD_VALUE, -2);
        due("BAD_TEXT", ParityRules.BAD_TEXT, -3);
        due("TOO_MANY", ParityRules.TOO_MANY, -4);
        due("NOT_POSSIBLE", ParityRules.NOT_POSSIBLE, -5);
        due("NONE", ParityRules.NONE, -6);
        due("KEPT", ParityRules.KEPT, 0);
        due("FOLLOWS", ParityRules.FOLLOWS, 1);
        due("AGAINST", ParityRules.AGAINST, 2);
        due("final", Modifier.isFinal(ParityRules.class.getModifiers()) ? 1 : 0, 1);
    }

    private static void newObject() {
        part = "promise 1";
        ParityRules x = new ParityRules();
        same("a new object", all(x), "0 0 0 0 64 0 6 0 0 |0");
        due("undo", x.undo(), NOT_POSSIBLE);
        due("restore 0", x.restore(0), NOT_POSSIBLE);
        due("restore 1", x.restore(1), NOT_POSSIBLE);
        ParityRules y = new ParityRules();
        y.tell(1, 1);
        y.save(0);
        due("another object's rules", x.count(0), 0);
        due("another object's slot", x.restore(0), NOT_POSSIBLE);
    }

    private static void choices() {
        part = "promise 2";
        ParityRules x = new ParityRules();
        String before = all(x);
        for (int many : new int[] {0, 13, -1, LOW, HIGH}) {
            due("choices " + many, x.choices(many), BAD_VALUE);
        }
        same("after errors", all(x), before);
        due("choices 12", x.choices(12), 6);
        due("choices 1", x.choices(1), 12);
        due("choices 1 again", x.choices(1), 1);
        due("it is recorded", x.count(8), 3);
        due("choices 3", x.choices(3), 1);
        x.tell(1, 0);
        x.tell(4, 0);
        x.tell(5, 1);
        x.tell(4, 1);
        before = all(x);
        due("choices 2", x.choices(2), NOT_POSSIBLE);
        due("a bad value is told first", x.choices(0), BAD_VALUE);
        same("after errors", all(x), before);
        due("choices 3", x.choices(3), 3);
        x.drop(1);
        due("with a rule that is not kept", x.choices(2), NOT_POSSIBLE);
        x.drop(1);
        due("the last rule has it", x.choices(2), NOT_POSSIBLE);
        x.drop(1);
        due("no rule has it now", x.choices(2), 3);
        due("answers", x.count(4), 2);
        x = with(4, "3=1;0=1");
        due("the first rule has it", x.choices(3), NOT_POSSIBLE);
        x.drop(0);
        due("no rule has it now", x.choices(2), 4);
        due("choices 11", x.choices(11), 2);
        due("answers", x.count(4), 1024);
        due("the new choices are free", x.answer(1023), 2047);
    }

    private static void tell() {
        part = "promise 3";
        ParityRules x = new ParityRules();
        String before = all(x);
        int[][] wrongs = {{0, 0}, {0, 1}, {64, 0}, {-1, 1}, {LOW, 0}, {HIGH, 0}, {1, 2}, {1, -1}, {1, LOW}, {1, HIGH}};
        for (int[] each : wrongs) {
            due("tell " + each[0] + " " + each[1], x.tell(each[0], each[1]), BAD_VALUE);
        }
        same("after errors", all(x), before);
        due("tell", x.tell(63, 1), KEPT);
        due("tell", x.tell(56, 0), KEPT);
        due("tell", x.tell(7, 1), FOLLOWS);
        due("tell", x.tell(7, 0), AGAINST);
        due("tell", x.tell(63, 0), AGAINST);
        due("a rule against does not count", x.tell(7, 0), AGAINST);
        due("tell", x.tell(1, 1), KEPT);
        same("rules", rules(x), "6 63=1:0 56=0:0 7=1:1 7=0:2 63=0:2 7=0:2 1=1:0");
        for (int i = 7; i < 19; i++) {
            due("tell", x.tell(6, 0), FOLLOWS);
        }
        due("the twentieth", x.tell(8, 0), KEPT);
        before = all(x);
        due("one more", x.tell(8, 0), TOO_MANY);
        due("a bad set first", x.tell(64, 0), BAD_VALUE);
        due("a bad sum first", x.tell(1, 2), BAD_VALUE);
        same("after errors", all(x), before);
        x = new ParityRules();
        x.choices(3);
        due("a choice that is not there", x.tell(8, 0), BAD_VALUE);
        due("the highest set", x.tell(7, 0), KEPT);
    }

    private static void drop() {
        part = "promise 4";
        ParityRules x = new ParityRules();
        due("without rules", x.drop(0), NO_SUCH);
        x = with(4, "0+1=1;1+2=0;0+2=0;3=1");
        String before = all(x);
        for (int rule : new int[] {-1, 4, 20, LOW, HIGH}) {
            due("drop " + rule, x.drop(rule), NO_SUCH);
        }
        same("after errors", all(x), before);
        due("drop 0", x.drop(0), 3);
        same("those behind move up and are judged anew", rules(x), "4 6=0:0 5=0:0 8=1:0");
        due("drop 1", x.drop(1), 2);
        same("rules", rules(x), "4 6=0:0 8=1:0");
        due("drop 1", x.drop(1), 1);
        due("drop 0", x.drop(0), 0);
        due("drop 0", x.drop(0), NO_SUCH);
        due("recorded", x.count(8), 6);
        x = with(6, ROW_OF_TWENTY);
        due("the last one of twenty", x.drop(19), 19);
        due("the first one of nineteen", x.drop(0), 18);
        due("another is kept for it", x.rule(0, 2), KEPT);
        due("there is room again", x.tell(2, 0), KEPT);
    }

    private static void move() {
        part = "promise 5";
        ParityRules x = with(4, "0+1=1;1+2=0;0+2=0;3=1;0+1=1");
        same("rules", rules(x), "4 3=1:0 6=0:0 5=0:2 8=1:0 3=1:1");
        String before = all(x);
        int[][] wrongs = {{-1, 0}, {5, 0}, {0, -1}, {0, 5}, {LOW, HIGH}, {HIGH, 0}, {0, LOW}};
        for (int[] each : wrongs) {
            due("move " + each[0] + " " + each[1], x.move(each[0], each[1]), NO_SUCH);
        }
        same("after errors", all(x), before);
        due("move 2 0", x.move(2, 0), 2);
        same("ahead", rules(x), "4 5=0:0 3=1:0 6=0:2 8=1:0 3=1:1");
        due("move 1 4", x.move(1, 4), 3);
        same("back", rules(x), "4 5=0:0 6=0:0 8=1:0 3=1:2 3=1:2");
        due("the same place", x.move(3, 3), 0);
        due("recorded", x.count(8), 5);
        due("each by itself", x.move(4, 3), 0);
        due("move 3 2", x.move(3, 2), 0);
        same("neighbours", rules(x), "4 5=0:0 6=0:0 3=1:2 8=1:0 3=1:2");
        x = with(3, "0=0;0=1;0=1");
        due("from the front to the end", x.move(0, 2), 3);
        same("rules", rules(x), "3 1=1:0 1=1:1 1=0:2");
        due("from the end to the front", x.move(2, 0), 3);
        same("rules", rules(x), "3 1=0:0 1=1:2 1=1:2");
        x = with(6, ROW_OF_TWENTY);
        due("the last one of twenty", x.move(19, 0), 20);
        due("the first one of twenty", x.move(0, 19), 20);
        due("a place behind the twenty", x.move(0, 20), NO_SUCH);
        x = new ParityRules();
        due("without rules", x.move(0, 0), NO_SUCH);
    }

    private static void turn() {
        part = "promise 6";
        ParityRules x = new ParityRules();
        due("without rules", x.turn(0), NO_SUCH);
        x = with(4, "0+1=1;1+2=0;0+2=0;0+2=1");
        String before = all(x);
        for (int rule : new int[] {-1, 4, LOW, HIGH}) {
            due("turn " + rule, x.turn(rule), NO_SUCH);
        }
        same("after errors", all(x), before);
        due("a rule against", x.turn(2), FOLLOWS);
        due("a rule that follows", x.turn(3), AGAINST);
        due("a kept rule", x.turn(0), KEPT);
        same("the others are judged anew", rules(x), "4 3=0:0 6=0:0 5=1:2 5=0:1");
        due("back", x.turn(0), KEPT);
        same("rules", rules(x), "4 3=1:0 6=0:0 5=1:1 5=0:2");
        due("recorded", x.count(8), 6);
    }

    private static void read() {
        part = "promise 7";
        ParityRules x = new ParityRules();
        due("an empty pad", x.read(), BAD_TEXT);
        put(x, "0+5=1;1=0");
        x.tell(33, 0);
        due("read", x.read(), 3);
        same("rules", rules(x), "6 33=0:0 33=1:2 2=0:0");
        due("the pad is empty", x.count(7), 0);
        due("one change", x.count(8), 2);
        due("undone at once", x.undo(), 1);
        same("rules", rules(x), "6 33=0:0");
        due("the pad stays empty", x.count(7), 0);
        put(x, "0=1;6=1");
        String before = all(x);
        due("a choice that is not there", x.read(), BAD_VALUE);
        same("after errors", all(x), before);
        put(x, ";0=");
        before = all(x);
        due("a fault is told first", x.read(), BAD_TEXT);
        same("after errors", all(x), before);
        put(x, "0");
        x.choices(7);
        due("the choice is there now", x.read(), 4);
        same("rules", rules(x), "7 33=0:0 1=1:0 64=1:0 1=0:2");
        full();
    }

    private static void full() {
        ParityRules x = new ParityRules();
        x.tell(1, 0);
        x.tell(2, 0);
        put(x, "0=0;0=0;0=0;0=0;0=0;0=0;0=0;0=0;0=0;0=0;0=0;0=0;0=0;0=0;0=0;0=0;0=0;0=0;0=0");
        String before = all(x);
        due("twenty-one rules", x.read(), TOO_MANY);
        same("after errors", all(x), before);
        put(x, ";");
        due("a fault is told first", x.read(), BAD_TEXT);
        x.wipe();
        put(x, "0=0;0=0;0=0;0=0;0=0;0=0;0=0;0=0;0=0;0=0;0=0;0=0;0=0;0=0;0=0;0=0;0=0;0=0;6=0");
        due("a choice is told first", x.read(), BAD_VALUE);
        x.drop(0);
        x.choices(7);
        due("twenty rules", x.read(), 20);
        put(x, "0=0");
        due("one more", x.read(), TOO_MANY);
        x = with(12, "0=0;1=1;2=0;3=1;4=0;5=1;6=0;7=1;8=0;9=1;10=0;0=0;0=1;0=0;0=1;0=0;0=1;0=0;0=1;0=0");
        due("the longest text", x.count(0), 20);
        due("kept", x.count(1), 11);
        due("against", x.count(3), 4);
    }

    private static void rule() {
        part = "promise 8";
        ParityRules x = with(5, "0+1=1;1+2=0;0+2=0;3+4=1;0+1+3+4=0;0+1=0;4=1");
        int[][] want = {
            {3, 1, KEPT, NONE, 3, 2}, {6, 0, KEPT, NONE, 1, 2}, {5, 0, AGAINST, 3, 0, 0}, {24, 1, KEPT, NONE, 1, 2},
            {27, 0, FOLLOWS, 9, 0, 2}, {3, 0, AGAINST, 1, 0, 0}, {16, 1, KEPT, NONE, 0, 2}};
        for (int rule = 0; rule < want.length; rule++) {
            for (int what = 0; what <= 5; what++) {
                due("rule " + rule + " " + what, x.rule(rule, what), want[rule][what]);
            }
        }
        for (int what : new int[] {-1, 6, LOW, HIGH}) {
            due("what " + what, x.rule(0, what), BAD_VALUE);
            due("no such rule is told first " + what, x.rule(7, what), NO_SUCH);
        }
        for (int rule : new int[] {-1, 7, 20, LOW, HIGH}) {
            due("rule " + rule, x.rule(rule, 0), NO_SUCH);
        }
        x = with(2, "0=0;0+1=1;1=1");
        due("reason of the last one", x.rule(2, 3), 3);
        x.move(2, 0);
        due("only rules ahead count", x.rule(2, 3), 3);
        due("what was followed is kept", x.rule(1, 2), KEPT);
        x = with(3, "0+1=0;1=0;0+2=0;0+2=1");
        due("the combination is made of no more rules", x.rule(3, 3), 4);
        x = with(12, "0=0;0=0;0=0;0=0;0=0;0=0;0=0;0=0;0=0;0=0;0=0;0=0;0=0;0=0;0=0;0=0;0=0;0=0;1=1;1=0");
        due("a high place in a reason", x.rule(19, 3), 1 << 18);
        due("in many reasons", x.rule(0, 4), 17);
        due("in one reason", x.rule(18, 4), 1);
    }

    private static void choice() {
        part = "promise 9";
        ParityRules x = with(6, "0+1=1;1+2=0;3=1;4=0;3+4=0");
        int[][] want = {{NONE, 1, 6}, {NONE, 2, 5}, {NONE, 1, 3}, {1, 2, 0}, {0, 2, 0}, {NONE, 0, 0}};
        for (int choice = 0; choice < 6; choice++) {
            for (int what = 0; what <= 2; what++) {
                due("choice " + choice + " " + what, x.choice(choice, what), want[choice][what]);
            }
        }
        for (int what : new int[] {-1, 3, LOW, HIGH}) {
            due("what " + what, x.choice(0, what), BAD_VALUE);
            due("no such choice is told first " + what, x.choice(6, what), NO_SUCH);
        }
        for (int choice : new int[] {-1, 6, 11, 12, LOW, HIGH}) {
            due("choice " + choice, x.choice(choice, 0), NO_SUCH);
        }
        x.choices(7);
        due("the choice is there now", x.choice(6, 0), NONE);
        x = with(12, "0+11=1;1+2+3=0;2+3+10=0");
        due("the highest choice", x.choice(0, 2), 2048);
        due("the highest choice", x.choice(11, 2), 1);
        due("by two rules", x.choice(1, 2), 1024);
        due("three together are no pair", x.choice(2, 2), 0);
    }

    private static void count() {
        part = "promise 10";
        ParityRules x = with(7, "0+1=1;1+2=0;0+2=1;0+2=0;3=1;4=0;3+4=0;0+1=1");
        x.save(0);
        put(x, "abc");
        x.turn(0);
        x.turn(0);
        int[] want = {8, 4, 2, 2, 8, 24, 7, 3, 4};
        for (int what = 0; what < want.length; what++) {
            due("count " + what, x.count(what), want[what]);
        }
        for (int what : new int[] {-1, 9, LOW, HIGH}) {
            due("count " + what, x.count(what), BAD_VALUE);
        }
        x = with(3, "0+1=0;1+2=0;0=1");
        due("one answer", x.count(4), 1);
        due("all are settled", x.count(5), 7);
        x = with(12, "11=0");
        due("settled", x.count(5), 2048);
        due("answers", x.count(4), 2048);
        due("answers", with(12, "").count(4), 4096);
    }

    private static void answer() {
        part = "promise 11";
        ParityRules x = with(4, "0+3=1;1+2+3=0");
        int[] want = {1, 7, 10, 12};
        for (int place = 0; place < want.length; place++) {
            due("answer " + place, x.answer(place), want[place]);
        }
        for (int place : new int[] {-1, 4, LOW, HIGH}) {
            due("answer " + place, x.answer(place), NO_SUCH);
        }
        x = with(3, "0+1=0;1+2=0;0=1;0=0");
        due("the only one", x.answer(0), 7);
        due("there is no second one", x.answer(1), NO_SUCH);
        x = with(12, "");
        due("all", x.answer(4095), 4095);
        due("behind all", x.answer(4096), NO_SUCH);
        x = with(2, "0+1=1");
        due("answer 0", x.answer(0), 1);
        due("answer 1", x.answer(1), 2);
    }

    private static void known() {
        part = "promise 12";
        ParityRules x = with(5, "0+1=1;1+2=0;3=1;0=1;0=0");
        int[] singles = {1, 0, 0, 1, NONE};
        for (int choice = 0; choice < 5; choice++) {
            due("known " + choice, x.known(1 << choice), singles[choice]);
        }
        due("the empty set", x.known(0), 0);
        due("known 15", x.known(15), 0);
        due("known 7", x.known(7), 1);
        due("known 31", x.known(31), NONE);
        for (int set : new int[] {-1, 32, LOW, HIGH}) {
            due("known " + set, x.known(set), BAD_VALUE);
        }
        x = with(3, "0+1=1;1+2=1");
        due("a pair", x.known(5), 0);
        due("one alone", x.known(1), NONE);
        due("three", x.known(7), NONE);
    }

    private static void nearest() {
        part = "promise 13";
        ParityRules x = with(4, "0+3=1;1+2+3=0");
        int[][] want = {{0, 1, 1}, {1, 1, 0}, {6, 7, 1}, {8, 10, 1}, {13, 12, 1}, {15, 7, 1}, {2, 10, 1}, {4, 12, 1}, {9, 1, 1}, {3, 1, 1}};
        for (int[] each : want) {
            due("nearest " + each[0], x.nearest(each[0], 0), each[1]);
            due("how near " + each[0], x.nearest(each[0], 1), each[2]);
        }
        for (int wish : new int[] {-1, 16, LOW, HIGH}) {
            due("nearest " + wish, x.nearest(wish, 0), BAD_VALUE);
            due("how near " + wish, x.nearest(wish, 1), BAD_VALUE);
        }
        for (int what : new int[] {-1, 2, LOW, HIGH}) {
            due("what " + what, x.nearest(0, what), BAD_VALUE);
        }
        x = with(12, "0=1;1=1;2=1;3=1;4=1;5=1;6=1;7=1;8=1;9=1;10=1;11=1");
        due("far", x.nearest(0, 0), 4095);
        due("how far", x.nearest(0, 1), 12);
        x = with(12, "");
        due("all are answers", x.nearest(4095, 0), 4095);
        due("all are answers", x.nearest(2730, 0), 2730);
        due("all are answers", x.nearest(2730, 1), 0);
        x = with(3, "0+1+2=1");
        due("the lowest of three", x.nearest(0, 0), 1);
        due("the lowest of three", x.nearest(6, 0), 2);
    }

    private static void best() {
        part = "promise 14";
        ParityRules x = new ParityRules();
        due("no rules", x.best(0), 0);
        due("no rules", x.best(1), 0);
        due("no rules", x.best(2), 64);
        for (int what : new int[] {-1, 3, LOW, HIGH}) {
            due("best " + what, x.best(what), BAD_VALUE);
        }
        x = with(3, "0=0;0=1;0=1;1=1;2=1;2=0");
        due("rules that are not kept count", x.best(0), 3);
        due("it does not fit", x.best(1), 2);
        due("with the other 2", x.best(2), 2);
        x = with(4, "0+1=1;2+3=1;0+1+2+3=1");
        due("best", x.best(0), 1);
        due("best", x.best(1), 1);
        due("best", x.best(2), 12);
        x.turn(0);
        x.drop(2);
        due("after changes", x.best(0), 4);
        due("after changes", x.best(1), 0);
        due("after changes", x.best(2), 4);
        x.turn(1);
        due("after changes", x.best(0), 0);
        x = with(12, "0+11=1;11=1;10=1;0=0");
        due("best", x.best(0), 3072);
        due("best", x.best(1), 0);
        due("best", x.best(2), 512);
    }

    private static void ifTold() {
        part = "promise 15";
        ParityRules x = with(4, "0+1=1;1+2=0;0+2=0");
        String before = all(x);
        due("ifTold", x.ifTold(8, 0), KEPT);
        due("ifTold", x.ifTold(1, 1), KEPT);
        due("ifTold", x.ifTold(5, 1), FOLLOWS);
        due("ifTold", x.ifTold(5, 0), AGAINST);
        due("ifTold", x.ifTold(3, 0), AGAINST);
        int[][] wrongs = {{0, 0}, {16, 0}, {-1, 0}, {LOW, 1}, {HIGH, 1}, {1, 2}, {1, -1}, {1, LOW}, {1, HIGH}};
        for (int[] each : wrongs) {
            due("ifTold " + each[0] + " " + each[1], x.ifTold(each[0], each[1]), BAD_VALUE);
        }
        same("nothing changes", all(x), before);
        x = with(4, ROW_OF_TWENTY);
        due("twenty rules", x.count(0), 20);
        due("ifTold", x.ifTold(1, 0), FOLLOWS);
        due("ifTold", x.ifTold(1, 1), AGAINST);
        due("ifTold", x.ifTold(15, 1), KEPT);
    }

    private static void ifDropped() {
        part = "promise 16";
        ParityRules x = with(4, "0+1=1;1+2=0;0+2=0;3=1;0+1=1");
        String before = all(x);
        due("another takes its place", x.ifDropped(0), 2);
        due("against takes its place", x.ifDropped(1), 2);
        due("not kept", x.ifDropped(2), 2);
        due("nothing takes its place", x.ifDropped(3), 4);
        due("not kept", x.ifDropped(4), 2);
        for (int rule : new int[] {-1, 5, LOW, HIGH}) {
            due("ifDropped " + rule, x.ifDropped(rule), NO_SUCH);
        }
        same("nothing changes", all(x), before);
        due("answers", x.count(4), 2);
        due("without rules", new ParityRules().ifDropped(0), NO_SUCH);
    }

    private static void ifMoved() {
        part = "promise 17";
        ParityRules x = with(4, "0+1=1;1+2=0;0+2=1;0+2=0;0+2=1");
        String before = all(x);
        due("as it is", x.ifMoved(0, 0), 1);
        due("ahead", x.ifMoved(3, 0), 3);
        due("ahead", x.ifMoved(2, 0), 1);
        due("to the end", x.ifMoved(0, 4), 1);
        due("between", x.ifMoved(3, 1), 3);
        due("to the end", x.ifMoved(2, 4), 1);
        int[][] wrongs = {{-1, 0}, {5, 0}, {0, -1}, {0, 5}, {LOW, 0}, {0, HIGH}};
        for (int[] each : wrongs) {
            due("ifMoved " + each[0] + " " + each[1], x.ifMoved(each[0], each[1]), NO_SUCH);
        }
        same("nothing changes", all(x), before);
        due("without rules", new ParityRules().ifMoved(0, 0), NO_SUCH);
    }

    private static void putting() {
        part = "promise 18";
        ParityRules x = new ParityRules();
        due("one", x.put('0'), 1);
        due("three", x.put(pack("+1=")), 4);
        due("in their order", x.fault(), 4);
        due("one", x.put('1'), 5);
        due("no fault", x.fault(), NONE);
        due("eight", x.put(pack("~!~!~!~!")), 13);
        String before = all(x);
        long[] wrongs = {0, 32, 127, 255, -1, Long.MIN_VALUE, Long.MAX_VALUE, 128, 0x3000, 0x300030, 0x3000000000000030L,
            0x3000000000000000L, 0x2030, 0x3020, 0x7f30303030303030L, 0x2030303030303030L, 0x8030303030303030L, 0xffffffff00000030L};
        for (long each : wrongs) {
            due("put " + each, x.put(each), BAD_VALUE);
        }
        same("after errors", all(x), before);
        due("the lowest code", x.put(33), 14);
        due("the highest code", x.put(126), 15);
        due("the highest ones", x.put(0x7e7e7e7e7e7e7e7eL), 23);
        for (int i = 0; i < 7; i++) {
            due("eight more", x.put(pack("01234567")), 31 + 8 * i);
        }
        before = all(x);
        due("too many", x.put(pack("ab")), TOO_MANY);
        due("a bad value is told first", x.put(pack("0123456 ")), BAD_VALUE);
        same("after errors", all(x), before);
        due("eighty", x.put('a'), 80);
        due("one more", x.put('a'), TOO_MANY);
        due("no change is recorded", x.count(8), 0);
    }

    private static void wipe() {
        part = "promise 19";
        ParityRules x = new ParityRules();
        due("an empty pad", x.wipe(), 0);
        put(x, "0=1;2");
        due("wipe", x.wipe(), 5);
        due("length", x.count(7), 0);
        due("fault", x.fault(), 0);
        due("again", x.wipe(), 0);
        due("no change is recorded", x.count(8), 0);
        put(x, "3=1");
        due("a new text", x.read(), 1);
        due("its rule", x.rule(0, 0), 8);
        due("the pad is empty", x.wipe(), 0);
    }

    private static void faults() {
        part = "promise 20";
        due("an empty pad", new ParityRules().fault(), 0);
        String[] right = {"0=0", "11=1", "0+1+2+3+4+5+6+7+8+9+10+11=0", "1+10=1", "1+11=0", "10+11=0", "9+10=1", "5=0;3=1",
            "11=0;0=0", "0=0;0=0;0=1", "2+11=1;1=0"};
        for (String text : right) {
            fault(text, NONE);
            fault(text + ";", text.length() + 1);
            fault(text + "0", text.length());
            fault(text + "=", text.length());
            fault(text + "+", text.length());
        }
        String[] early = {"0", "1", "9", "11", "1+", "5+1", "10+1", "9+1", "0+11", "3=", "3=0;", "3=0;1", "3=0;1+2", "0+1+"};
        for (String text : early) {
            fault(text, text.length());
        }
        Object[][] faulty = {{"=0", 0}, {"+1=0", 0}, {";", 0}, {"a", 0}, {"/", 0}, {":", 0}, {"00", 1}, {"01", 1}, {"0;", 1},
            {"12=0", 1}, {"19", 1}, {"1:", 1}, {"20", 1}, {"90", 1}, {"100", 2}, {"101", 2}, {"110", 2}, {"111", 2}, {"11+", 2},
            {"5+1=0", 3}, {"5+1+", 3}, {"5+12", 3}, {"5+4", 2}, {"5+5", 2}, {"5+0", 2}, {"0+0", 2}, {"1+1=", 3}, {"1+0", 2},
            {"10+10", 4}, {"10+1=", 4}, {"10+9", 3}, {"10+2", 3}, {"10+0", 3}, {"0++", 2}, {"0+=", 2}, {"0+;", 2}, {"0=2", 2},
            {"0=/", 2}, {"0==", 2}, {"0=;", 2}, {"0=01", 3}, {"0=0;;", 4}, {"0=0;=", 4}, {"0=0,", 3}, {"0-", 1}, {"0,", 1},
            {"11+1", 2}, {"0+11+", 4}, {"5=0;5+5", 6}, {"0+10+1+", 6}, {"9+10+11+", 7}, {"0+10+1=", 6}};
        for (Object[] each : faulty) {
            fault((String) each[0], (Integer) each[1]);
            fault((String) each[0] + "0=0", (Integer) each[1]);
        }
        String full = "0=0;0=0;0=0;0=0;0=0;0=0;0=0;0=0;0=0;0=0;0=0;0=0;0=0;0=0;0=0;0=0;0=0;0=0;0=0;0=0;";
        fault(full, 80);
        fault(full.substring(0, 79), NONE);
        ParityRules x = new ParityRules();
        x.choices(1);
        put(x, "11=1");
        due("CHOICES does not matter", x.fault(), NONE);
    }

    private static void undo() {
        part = "promise 21";
        ParityRules x = new ParityRules();
        due("nothing", x.undo(), NOT_POSSIBLE);
        String[] states = new String[9];
        states[0] = rules(x);
        x.choices(7);
        states[1] = rules(x);
        x.tell(64, 1);
        states[2] = rules(x);
        put(x, "6=1;6=0");
        x.read();
        states[3] = rules(x);
        x.move(0, 2);
        states[4] = rules(x);
        x.turn(1);
        states[5] = rules(x);
        x.save(1);
        x.drop(0);
        states[6] = rules(x);
        x.restore(1);
        states[7] = rules(x);
        x.move(1, 1);
        states[8] = rules(x);
        due("six at most", x.count(8), 6);
        put(x, "2=0");
        for (int i = 5; i >= 0; i--) {
            due("undo", x.undo(), i);
            same("the state", rules(x), states[i + 2]);
            due("how many are left", x.count(8), i);
        }
        String before = all(x);
        due("the oldest ones are dropped", x.undo(), NOT_POSSIBLE);
        same("after an error", all(x), before);
        due("the pad stays", x.count(7), 3);
        due("the slot stays", x.restore(1), 3);
        same("the slot stays", rules(x), states[5]);
        due("undo", x.undo(), 0);
        x.tell(1, 0);
        x.tell(0, 0);
        x.known(1);
        x.ifTold(2, 0);
        x.ifDropped(0);
        x.ifMoved(0, 1);
        x.save(0);
        x.put('0');
        x.wipe();
        due("only changes are recorded", x.count(8), 1);
        due("undo", x.undo(), 0);
        same("the state", rules(x), states[2]);
        due("answers", x.count(4), 64);
        due("an undone state is judged", x.known(64), 1);
    }

    private static void saving() {
        part = "promises 22 and 23";
        ParityRules x = new ParityRules();
        String before = all(x);
        for (int slot : new int[] {-1, 2, LOW, HIGH}) {
            due("save " + slot, x.save(slot), BAD_VALUE);
            due("restore " + slot, x.restore(slot), BAD_VALUE);
        }
        due("nothing was saved", x.restore(0), NOT_POSSIBLE);
        due("nothing was saved", x.restore(1), NOT_POSSIBLE);
        same("after errors", all(x), before);
        due("save without rules", x.save(1), 0);
        due("the other slot", x.restore(0), NOT_POSSIBLE);
        x.choices(8);
        put(x, "7=1;0=0;0=1");
        x.read();
        due("save", x.save(0), 3);
        due("it is no change", x.count(8), 2);
        String saved = rules(x);
        put(x, "zz");
        x.turn(1);
        x.drop(0);
        due("restore", x.restore(0), 3);
        same("restored", rules(x), saved);
        due("the pad stays", x.count(7), 2);
        due("it is a change", x.count(8), 5);
        due("the slot keeps it", x.restore(0), 3);
        x.turn(0);
        due("restore", x.restore(0), 3);
        same("what is done later is not saved", rules(x), saved);
        due("the other one", x.restore(1), 0);
        due("with its choices", x.count(6), 6);
        due("and its answers", x.count(4), 64);
        x.tell(9, 1);
        due("overwrite", x.save(0), 1);
        x.undo();
        due("restore", x.restore(0), 1);
        same("overwritten", rules(x), "6 9=1:0");
        due("undo", x.undo(), 5);
        due("undone", x.count(0), 0);
    }

    public static void main(String[] args) {
        constants();
        newObject();
        choices();
        tell();
        drop();
        move();
        turn();
        read();
        rule();
        choice();
        count();
        answer();
        known();
        nearest();
        best();
        ifTold();
        ifDropped();
        ifMoved();
        putting();
        wipe();
        faults();
        undo();
        saving();
        finish();
    }
}
