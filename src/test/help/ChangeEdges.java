/** The boundary cases of the promises 1 to 7 and 21 to 23: a new object, changes, undo and saving. */
final class ChangeEdges extends Checks {
    private static final String NEW = "Promise 1: A new object", CHOICES = "Promise 2: choices", TELL = "Promise 3: tell",
        DROP = "Promise 4: drop", MOVE = "Promise 5: move", TURN = "Promise 6: turn", READ = "Promise 7: read",
        UNDO = "Promise 21: undo", SAVE = "Promise 22: save", RESTORE = "Promise 23: restore";

    private static ParityRules full() {
        return with(6, rows(20, "0=0"));
    }

    @Edge(in = NEW, says = "Creates six choices without rules.")
    static void newObject() {
        ParityRules x = new ParityRules();
        due("rules", x.count(0), 0);
        due("kept", x.count(1), 0);
        due("following", x.count(2), 0);
        due("against", x.count(3), 0);
        due("answers", x.count(4), 64);
        due("settled", x.count(5), 0);
        due("CHOICES", x.count(6), 6);
        due("the pad", x.count(7), 0);
        due("the history", x.count(8), 0);
        due("the slot 0", x.restore(0), NOT_POSSIBLE);
        due("the slot 1", x.restore(1), NOT_POSSIBLE);
    }

    @Edge(in = NEW, says = "Creates")
    static void objectsShareNothing() {
        ParityRules used = with(3, "0=1;1=1");
        used.save(0);
        used.put('0');
        newObject();
        new ParityRules().tell(32, 1);
        same("the other object", rules(used), "3 1=1:0 2=1:0");
    }

    @Edge(in = CHOICES, says = "`many`: 1 to 12")
    static void oneAndTwelve() {
        ParityRules x = new ParityRules();
        due("choices 1", x.choices(1), 6);
        due("answers", x.count(4), 2);
        due("choices 12", x.choices(12), 1);
        due("answers", x.count(4), 4096);
    }

    @Edge(in = CHOICES, says = "Returns the previous number;")
    static void theSameNumberAgain() {
        ParityRules x = new ParityRules();
        due("choices 6", x.choices(6), 6);
        due("choices 7", x.choices(7), 6);
        due("choices 13", x.choices(13), BAD_VALUE);
        due("choices 5", x.choices(5), 7);
    }

    @Edge(in = CHOICES, says = "BAD_VALUE if many is out of range;")
    static void choicesOutOfRange() {
        for (int many : outside(1, 12)) {
            due("choices " + many, new ParityRules().choices(many), BAD_VALUE);
        }
    }

    @Edge(in = CHOICES, says = "NOT_POSSIBLE if a rule has a choice that would not be there.")
    static void choicesThatRulesHave() {
        for (int c = 0; c < 12; c++) {
            ParityRules x = with(12, "0=0;0=0");
            x.tell(1 << c, 0);
            x.move(2, c % 3);
            for (int many = 1; many <= c; many++) {
                due("without " + c, x.choices(many), NOT_POSSIBLE);
            }
            due("with " + c, x.choices(c + 1), 12);
        }
        ParityRules x = with(6, "5=0;5=1;5=0");
        x.drop(0);
        x.drop(0);
        due("a rule that stays", x.choices(5), NOT_POSSIBLE);
        x.drop(0);
        due("no rule stays", x.choices(5), 6);
        x = with(6, "5=0;5=1");
        x.drop(0);
        x.tell(32, 1);
        due("a rule that follows", x.choices(5), NOT_POSSIBLE);
        put(x, "11=1");
        due("the pad is no rule", x.choices(6), 6);
    }

    @Edge(in = TELL, says = "Tells a rule, as the last one.")
    static void theFirstAndTheTwentieth() {
        ParityRules x = new ParityRules();
        for (int i = 0; i < 20; i++) {
            x.tell(63 - i, i % 2);
            due("rules", x.count(0), i + 1);
            due("its set", x.rule(i, 0), 63 - i);
            due("its sum", x.rule(i, 1), i % 2);
        }
        due("the first one stays", x.rule(0, 0), 63);
    }

    @Edge(in = TELL, says = "`set`: a set of choices, not empty")
    static void lowestAndHighestSet() {
        for (int choices = 1; choices <= 12; choices++) {
            ParityRules x = with(choices, "");
            due("the highest set", x.tell((1 << choices) - 1, 0), KEPT);
            due("the lowest set", x.tell(1, 0), choices == 1 ? FOLLOWS : KEPT);
            due("the empty set", x.tell(0, 0), BAD_VALUE);
        }
    }

    @Edge(in = TELL, says = "`sum`: 0 or 1")
    static void bothSums() {
        ParityRules x = new ParityRules();
        due("0", x.tell(1, 0), KEPT);
        due("1", x.tell(2, 1), KEPT);
        due("its sum", x.rule(0, 1), 0);
        due("its sum", x.rule(1, 1), 1);
    }

    @Edge(in = TELL, says = "BAD_VALUE if an argument is out of range;")
    static void tellOutOfRange() {
        for (int choices = 1; choices <= 12; choices++) {
            ParityRules x = with(choices, "");
            for (int set : outside(1, (1 << choices) - 1)) {
                due("set " + set + " of " + choices, x.tell(set, 0), BAD_VALUE);
            }
            for (int sum : outside(0, 1)) {
                due("sum " + sum, x.tell(1, sum), BAD_VALUE);
            }
        }
    }

    @Edge(in = TELL, says = "TOO_MANY if there are 20 rules.")
    static void tellTheTwentyFirst() {
        ParityRules x = with(6, rows(19, "0=0"));
        due("the twentieth", x.tell(2, 0), KEPT);
        due("the next one", x.tell(4, 0), TOO_MANY);
        due("rules", x.count(0), 20);
        x.drop(0);
        due("when one is dropped", x.tell(4, 0), KEPT);
    }

    @Edge(in = DROP, says = "Takes a rule away; those behind it move up.")
    static void dropFirstAndLast() {
        ParityRules x = with(5, "0=0;1=0;2=0;3=0;4=0");
        x.drop(0);
        same("the first one", rules(x), "5 2=0:0 4=0:0 8=0:0 16=0:0");
        x.drop(3);
        same("the last one", rules(x), "5 2=0:0 4=0:0 8=0:0");
        x.drop(1);
        same("one between", rules(x), "5 2=0:0 8=0:0");
        x = with(6, rows(19, "0=0") + ";1=0");
        x.drop(0);
        due("the last one of twenty", x.rule(18, 0), 2);
        due("the next one follows no more", x.rule(0, 2), KEPT);
    }

    @Edge(in = DROP, says = "Returns how many rules there are then;")
    static void dropAll() {
        ParityRules x = full();
        for (int left = 19; left >= 0; left--) {
            due("drop", x.drop(left / 2), left);
        }
        due("answers", x.count(4), 64);
    }

    @Edge(in = DROP, says = "NO_SUCH if there is no such rule.")
    static void dropNone() {
        due("of none", new ParityRules().drop(0), NO_SUCH);
        for (int rule : outside(0, 2)) {
            due("of three", with(6, "0=0;0=0;0=0").drop(rule), NO_SUCH);
        }
        for (int rule : outside(0, 19)) {
            due("of twenty", full().drop(rule), NO_SUCH);
        }
    }

    @Edge(in = MOVE, says = "Moves a rule to another place; those between move by one.")
    static void moveFromEndToEnd() {
        ParityRules x = with(5, "0=0;1=0;2=0;3=0;4=0");
        x.move(0, 4);
        same("down to the end", rules(x), "5 2=0:0 4=0:0 8=0:0 16=0:0 1=0:0");
        x.move(4, 0);
        same("up to the first place", rules(x), "5 1=0:0 2=0:0 4=0:0 8=0:0 16=0:0");
        x.move(1, 2);
        same("by one", rules(x), "5 1=0:0 4=0:0 2=0:0 8=0:0 16=0:0");
        x.move(3, 1);
        same("those outside stay", rules(x), "5 1=0:0 8=0:0 4=0:0 2=0:0 16=0:0");
        x.move(1, 1);
        same("to its own place", rules(x), "5 1=0:0 8=0:0 4=0:0 2=0:0 16=0:0");
        x = with(6, rows(19, "0=0") + ";1=1");
        x.move(19, 0);
        due("the last one of twenty", x.rule(0, 0), 2);
        due("its sum", x.rule(0, 1), 1);
        due("the last one then", x.rule(19, 0), 1);
        x.move(0, 19);
        due("back", x.rule(19, 1), 1);
    }

    @Edge(in = MOVE, says = "`place`: a place of a rule")
    static void firstAndLastPlace() {
        due("the only place", with(6, "0=0").move(0, 0), 0);
        due("the first one", full().move(19, 0), 2);
        due("the last one", full().move(0, 19), 2);
    }

    @Edge(in = MOVE, says = "Returns how many rules have another state than they had (each rule by itself, wherever it is then);")
    static void noStateOrAllChange() {
        due("all", with(6, rows(19, "0=0") + ";0=1").move(19, 0), 20);
        due("none", with(6, "0=0;1=0;2=0;2=1;1=1").move(3, 4), 0);
        due("the same states at other places", with(6, "0=0;1=0;1=0;2=0").move(3, 0), 0);
        due("other states, the same row of them", with(6, "0=0;0=0").move(0, 1), 2);
    }

    @Edge(in = MOVE, says = "NO_SUCH if there is no such rule or place.")
    static void moveNone() {
        due("without rules", new ParityRules().move(0, 0), NO_SUCH);
        for (int each : outside(0, 1)) {
            due("rule " + each, with(6, "0=0;1=0").move(each, 0), NO_SUCH);
            due("place " + each, with(6, "0=0;1=0").move(0, each), NO_SUCH);
            due("both " + each, with(6, "0=0;1=0").move(each, each), NO_SUCH);
        }
        for (int each : outside(0, 19)) {
            due("rule " + each, full().move(each, 0), NO_SUCH);
            due("place " + each, full().move(0, each), NO_SUCH);
        }
    }

    @Edge(in = TURN, says = "Exchanges the sum of a rule for the other one.")
    static void turnTwice() {
        ParityRules x = with(6, "0=0;1=1");
        for (int rule = 0; rule <= 1; rule++) {
            x.turn(rule);
            due("turned", x.rule(rule, 1), 1 - rule);
            x.turn(rule);
            due("turned again", x.rule(rule, 1), rule);
        }
        due("its set stays", x.rule(1, 0), 2);
    }

    @Edge(in = TURN, says = "Returns its state then;")
    static void turnToEachState() {
        ParityRules x = with(6, "0=0;0=0");
        due("kept", x.turn(0), KEPT);
        due("the other one is against", x.rule(1, 2), AGAINST);
        due("follows", x.turn(1), FOLLOWS);
        due("against", x.turn(1), AGAINST);
    }

    @Edge(in = TURN, says = "NO_SUCH if there is no such rule.")
    static void turnNone() {
        due("without rules", new ParityRules().turn(0), NO_SUCH);
        for (int rule : outside(0, 0)) {
            due("of one", with(6, "0=0").turn(rule), NO_SUCH);
        }
        for (int rule : outside(0, 19)) {
            due("of twenty", full().turn(rule), NO_SUCH);
        }
        due("the last one of twenty", full().turn(19), AGAINST);
    }

    @Edge(in = READ, says = "Tells all rules of the pad, one after the other, and empties the pad.")
    static void readOneAndTwenty() {
        ParityRules x = new ParityRules();
        put(x, "5=1");
        due("one", x.read(), 1);
        due("the pad", x.count(7), 0);
        due("an empty pad", x.read(), BAD_TEXT);
        x = with(12, "0=1;1=0;2=0;3=0;4=0;5=0;6=0;7=0;8=0;9=0;0=1;1=1;0=0;0=0;0=0;0=0;0=0;0=0;0=0;9=1");
        due("twenty", x.count(0), 20);
        due("the first one", x.rule(0, 1), 1);
        due("one between", x.rule(11, 2), AGAINST);
        due("the last one", x.rule(19, 0), 512);
        due("the pad", x.count(7), 0);
    }

    @Edge(in = READ, says = "Returns how many rules there are then;")
    static void readCountsAllRules() {
        ParityRules x = with(6, "0=0");
        put(x, "0=0;1=0");
        due("read", x.read(), 3);
    }

    @Edge(in = READ, says = "BAD_TEXT if the pad has a fault;")
    static void readFaults() {
        due("an empty pad", new ParityRules().read(), BAD_TEXT);
        for (String text : new String[] {"0", "0=", "0=0;", "0=0;1", "=", "0=2", "0=0;0=0=", "5+1=0", "12=0", rows(20, "0=0") + ";"}) {
            ParityRules x = new ParityRules();
            put(x, text);
            due(text, x.read(), BAD_TEXT);
            due("rules", x.count(0), 0);
            due("the pad stays", x.count(7), text.length());
        }
    }

    @Edge(in = READ, says = "BAD_VALUE if a choice is not there;")
    static void readChoicesThatAreNotThere() {
        for (int c = 0; c < 12; c++) {
            ParityRules x = new ParityRules();
            put(x, "0=0;" + (c == 0 ? "" : "0+") + c + "=0;0=0");
            for (int choices = 1; choices <= c; choices++) {
                x.choices(choices);
                due(c + " of " + choices, x.read(), BAD_VALUE);
            }
            x.choices(c + 1);
            due(c + " is there", x.read(), 3);
        }
    }

    @Edge(in = READ, says = "TOO_MANY if there would be more than 20.")
    static void readUpToTwenty() {
        for (int many = 1; many <= 20; many++) {
            ParityRules x = new ParityRules();
            for (int i = 0; i < 21 - many; i++) {
                x.tell(1, 0);
            }
            put(x, rows(many, "1=0"));
            due(many + " up to 21", x.read(), TOO_MANY);
            due("the pad stays", x.count(7), 4 * many - 1);
            x.drop(0);
            due(many + " up to 20", x.read(), 20);
        }
    }

    @Edge(in = UNDO, says = "Undoes the latest change: everything except the pad, the slots and the history is as it was before it.")
    static void undoWithPadAndSlots() {
        ParityRules x = with(7, "6=1");
        put(x, "0=0");
        x.save(0);
        x.read();
        x.choices(12);
        x.save(0);
        put(x, "1=1");
        due("undo", x.undo(), 3);
        same("the choices", rules(x), "7 64=1:0 1=0:0");
        due("undo", x.undo(), 2);
        same("the rules", rules(x), "7 64=1:0");
        due("the pad is not as it was", x.count(7), 3);
        due("nor is the slot", x.restore(0), 2);
        same("what was saved last", rules(x), "12 64=1:0 1=0:0");
        due("read", x.read(), 3);
        same("what the pad has now", rules(x), "12 64=1:0 1=0:0 2=1:0");
    }

    @Edge(in = UNDO, says = "is as it was before it.")
    static void undoBringsStatesAndAnswersBack() {
        ParityRules x = with(3, "0=1;0+1=1;1=0;1=1");
        String before = judged(x);
        x.choices(12);
        undone("choices", x, before);
        x.tell(4, 1);
        undone("tell", x, before);
        x.drop(0);
        undone("drop", x, before);
        x.move(0, 3);
        undone("move", x, before);
        x.turn(1);
        undone("turn", x, before);
        put(x, "2=1;0=0");
        x.read();
        undone("read", x, before);
        x.turn(0);
        x.save(0);
        undone("turn, and save", x, before);
        x.restore(0);
        undone("restore", x, before);
    }

    private static void undone(String change, ParityRules x, String before) {
        due("undo of " + change, x.undo(), 2);
        same("after undo of " + change, judged(x), before);
    }

    /** What follows from the rules. */
    private static String judged(ParityRules x) {
        StringBuilder text = new StringBuilder(rules(x));
        for (int what = 1; what <= 5; what++) {
            text.append(' ').append(x.count(what));
        }
        for (int rule = 0; rule < x.count(0); rule++) {
            text.append(' ').append(x.rule(rule, 3)).append(' ').append(x.rule(rule, 5));
        }
        for (int place = 0; place < x.count(4); place++) {
            text.append(' ').append(x.answer(place));
        }
        return text.append(' ').append(x.best(0)).toString();
    }

    @Edge(in = UNDO, says = "A history of at most 6 states is kept:")
    static void sixStates() {
        for (int changes = 0; changes <= 20; changes++) {
            ParityRules x = new ParityRules();
            for (int i = 0; i < changes; i++) {
                x.tell(1, 0);
            }
            int kept = Math.min(changes, 6);
            due("after " + changes, x.count(8), kept);
            for (int left = kept - 1; left >= 0; left--) {
                due("undo", x.undo(), left);
            }
            due("one more", x.undo(), NOT_POSSIBLE);
            due("rules", x.count(0), changes - kept);
        }
    }

    @Edge(in = UNDO, says = "each method that is a change,")
    static void changesAreRecorded() {
        ParityRules x = new ParityRules();
        x.put('0');
        x.put(pack("=1"));
        due("put", x.count(8), 0);
        x.read();
        due("read, of one rule", x.count(8), 1);
        x.tell(1, 0);
        due("tell", x.count(8), 2);
        x.drop(1);
        due("drop", x.count(8), 3);
        x.turn(0);
        due("turn", x.count(8), 4);
        x.save(0);
        x.wipe();
        due("save and wipe", x.count(8), 4);
        x.restore(0);
        due("restore", x.count(8), 5);
        x.undo();
        due("undo", x.count(8), 4);
        put(x, "1=1;2=1;3=1");
        x.read();
        due("read, of three rules", x.count(8), 5);
        x.undo();
        x.undo();
        x.undo();
        x.move(0, 1);
        due("move", x.count(8), 3);
        x.choices(7);
        due("choices", x.count(8), 4);
    }

    @Edge(in = UNDO, says = "and returns no error, records the state before it")
    static void refusedChangesAreNotRecorded() {
        ParityRules x = with(6, rows(19, "0=0") + ";5=0");
        due("before", x.count(8), 2);
        int[] refused = {x.choices(0), x.choices(5), x.tell(0, 0), x.tell(1, 0), x.drop(20), x.move(20, 0), x.move(0, 20), x.turn(20),
            x.read(), x.restore(0), x.restore(2)};
        for (int answer : refused) {
            due("it is refused", answer < 0 ? 1 : 0, 1);
        }
        put(x, "6=0");
        due("read", x.read(), BAD_VALUE);
        x.wipe();
        put(x, "0=0");
        due("read", x.read(), TOO_MANY);
        due("after them", x.count(8), 2);
        due("undo", x.undo(), 1);
        due("rules", x.count(0), 0);
    }

    @Edge(in = UNDO, says = "(also if nothing is different then);")
    static void changesOfNothing() {
        ParityRules x = with(6, "0=0");
        due("before", x.count(8), 2);
        x.choices(6);
        due("choices", x.count(8), 3);
        x.move(0, 0);
        due("move", x.count(8), 4);
        x.save(1);
        x.restore(1);
        due("restore", x.count(8), 5);
        for (int left = 4; left >= 2; left--) {
            due("undo", x.undo(), left);
            same("the same rules", rules(x), "6 1=0:0");
        }
        due("undo", x.undo(), 1);
        same("no rules", rules(x), "6");
    }

    @Edge(in = UNDO, says = "when one more is recorded, the oldest one is dropped.")
    static void theOldestIsDropped() {
        ParityRules x = new ParityRules();
        for (int i = 1; i <= 15; i++) {
            x.tell(i, 1);
        }
        for (int i = 14; i >= 9; i--) {
            due("undo", x.undo(), i - 9);
            due("rules", x.count(0), i);
            due("the last one", x.rule(i - 1, 0), i);
        }
        due("what was dropped", x.undo(), NOT_POSSIBLE);
        x.drop(8);
        due("after an empty history", x.undo(), 0);
        due("rules", x.count(0), 9);
        due("the last one", x.rule(8, 0), 9);
    }

    @Edge(in = UNDO, says = "Returns how many changes can be undone then;")
    static void undoneIsGone() {
        ParityRules x = with(6, "0=0");
        due("undo", x.undo(), 1);
        x.tell(2, 0);
        x.tell(4, 0);
        due("undo", x.undo(), 2);
        due("it counts the same", x.count(8), 2);
        due("undo", x.undo(), 1);
        due("undo", x.undo(), 0);
    }

    @Edge(in = UNDO, says = "NOT_POSSIBLE if there is none.")
    static void undoNothing() {
        ParityRules x = new ParityRules();
        due("at first", x.undo(), NOT_POSSIBLE);
        x.tell(0, 0);
        x.save(0);
        x.put('0');
        due("after no change", x.undo(), NOT_POSSIBLE);
        x.tell(1, 0);
        due("after a change", x.undo(), 0);
        due("again", x.undo(), NOT_POSSIBLE);
        due("rules", x.count(0), 0);
    }

    @Edge(in = SAVE, says = "Saves everything except the pad, the history and the slots in a slot, and overwrites what was saved there.")
    static void saveOverAnother() {
        ParityRules x = with(7, "6=1;6=0");
        put(x, "0=1");
        x.save(0);
        same("what was saved", rules(x), "7 64=1:0 64=0:2");
        x.drop(0);
        x.drop(0);
        x.choices(2);
        x.save(1);
        x.wipe();
        x.restore(0);
        same("the rules and the choices", rules(x), "7 64=1:0 64=0:2");
        due("not the pad", x.count(7), 0);
        due("not the history", x.count(8), 6);
        due("not the slots", x.restore(1), 0);
        due("its choices", x.count(6), 2);
        x.save(0);
        x.tell(1, 1);
        due("overwritten", x.restore(0), 0);
        due("its choices", x.count(6), 2);
    }

    @Edge(in = SAVE, says = "`slot`: 0 or 1")
    static void saveInBoth() {
        ParityRules x = new ParityRules();
        due("save 0", x.save(0), 0);
        x.tell(1, 1);
        due("save 1", x.save(1), 1);
        due("restore 0", x.restore(0), 0);
        due("restore 1", x.restore(1), 1);
    }

    @Edge(in = SAVE, says = "Returns how many rules there are;")
    static void saveNoneAndTwenty() {
        due("none", new ParityRules().save(1), 0);
        due("twenty", full().save(0), 20);
    }

    @Edge(in = SAVE, says = "BAD_VALUE if there is no such slot.")
    static void saveInNoSlot() {
        for (int slot : outside(0, 1)) {
            ParityRules x = new ParityRules();
            due("save " + slot, x.save(slot), BAD_VALUE);
            due("nothing is saved", x.restore(0), NOT_POSSIBLE);
            due("nothing is saved", x.restore(1), NOT_POSSIBLE);
        }
    }

    @Edge(in = RESTORE, says = "Restores what was saved last in a slot, which keeps it.")
    static void restoreAgainAndAgain() {
        ParityRules x = with(8, "7=1;7=0");
        x.save(1);
        for (int i = 0; i < 3; i++) {
            x.turn(0);
            x.tell(2, 1);
            x.restore(1);
            same("restored", rules(x), "8 128=1:0 128=0:2");
        }
        x.turn(0);
        x.save(1);
        x.undo();
        x.restore(1);
        same("the last one", rules(x), "8 128=0:0 128=0:1");
    }

    @Edge(in = RESTORE, says = "`slot`: 0 or 1")
    static void restoreBoth() {
        ParityRules x = with(6, "0=0");
        x.save(0);
        x.tell(1, 0);
        x.save(1);
        due("restore 0", x.restore(0), 1);
        due("restore 1", x.restore(1), 2);
    }

    @Edge(in = RESTORE, says = "Returns how many rules there are then;")
    static void restoreNoneAndTwenty() {
        ParityRules x = new ParityRules();
        x.save(0);
        put(x, rows(20, "0=0"));
        x.read();
        x.save(1);
        due("none", x.restore(0), 0);
        due("twenty", x.restore(1), 20);
        due("the last one", x.rule(19, 2), FOLLOWS);
    }

    @Edge(in = RESTORE, says = "BAD_VALUE if there is no such slot;")
    static void restoreNoSlot() {
        for (int slot : outside(0, 1)) {
            due("restore " + slot, new ParityRules().restore(slot), BAD_VALUE);
        }
    }

    @Edge(in = RESTORE, says = "NOT_POSSIBLE if nothing was saved in it.")
    static void restoreNothing() {
        ParityRules x = new ParityRules();
        due("slot 0", x.restore(0), NOT_POSSIBLE);
        due("slot 1", x.restore(1), NOT_POSSIBLE);
        x.save(1);
        due("slot 0", x.restore(0), NOT_POSSIBLE);
        due("no change", x.count(8), 0);
        due("slot 1", x.restore(1), 0);
        x = new ParityRules();
        x.save(0);
        due("slot 1", x.restore(1), NOT_POSSIBLE);
    }
}
