/** The boundary cases of the promises 8 to 17: what there is, answers, and what if. */
final class AskEdges extends Checks {
    private static final String RULE = "Promise 8: rule", CHOICE = "Promise 9: choice", COUNT = "Promise 10: count",
        ANSWER = "Promise 11: answer", KNOWN = "Promise 12: known", NEAREST = "Promise 13: nearest", BEST = "Promise 14: best",
        IF_TOLD = "Promise 15: ifTold", IF_DROPPED = "Promise 16: ifDropped", IF_MOVED = "Promise 17: ifMoved";

    private static ParityRules full() {
        return with(6, rows(20, "0=0"));
    }

    private static ParityRules settled() {
        return with(12, "0=0;1=1;2=0;3=1;4=0;5=1;6=0;7=1;8=0;9=1;10=0;11=1");
    }

    @Edge(in = RULE, says = "0 its set,")
    static void lowestAndHighestSetOfRules() {
        ParityRules x = with(12, "0=0;0+1+2+3+4+5+6+7+8+9+10+11=0");
        due("the lowest", x.rule(0, 0), 1);
        due("the highest", x.rule(1, 0), 4095);
    }

    @Edge(in = RULE, says = "1 its sum,")
    static void bothSumsOfRules() {
        ParityRules x = with(12, "0=0;1=1");
        due("0", x.rule(0, 1), 0);
        due("1", x.rule(1, 1), 1);
    }

    @Edge(in = RULE, says = "2 its state,")
    static void allStates() {
        ParityRules x = with(12, "0=0;0=0;0=1");
        due("kept", x.rule(0, 2), KEPT);
        due("follows", x.rule(1, 2), FOLLOWS);
        due("against", x.rule(2, 2), AGAINST);
    }

    @Edge(in = RULE, says = "3 its reason (NONE if it is kept),")
    static void reasonOrNone() {
        ParityRules x = with(12, "0=0;0=0;0=1;1=0;0+1=1");
        due("kept", x.rule(0, 3), NONE);
        due("follows", x.rule(1, 3), 1);
        due("against", x.rule(2, 3), 1);
        due("kept", x.rule(3, 3), NONE);
        due("of two", x.rule(4, 3), 9);
        x = with(12, rows(18, "0=0") + ";1=0;1=0");
        due("of the last but one", x.rule(19, 3), 1 << 18);
    }

    @Edge(in = RULE, says = "4 how many of the rules that are not kept have it in their reason,")
    static void inNoReasonOrInAll() {
        ParityRules x = full();
        due("in all others", x.rule(0, 4), 19);
        for (int rule = 1; rule < 20; rule++) {
            due("in none", x.rule(rule, 4), 0);
        }
        x = with(12, "0=0;1=0;0+1=1;0=1;2=0");
        due("in two", x.rule(0, 4), 2);
        due("in one", x.rule(1, 4), 1);
        due("not in its own", x.rule(4, 4), 0);
        due("one against is in none", x.rule(2, 4), 0);
    }

    @Edge(in = RULE, says = "5 how many of the answers fit it")
    static void noneOrAllFit() {
        ParityRules x = with(12, "0=0;0=0;0=1");
        due("kept", x.rule(0, 5), 2048);
        due("follows", x.rule(1, 5), 2048);
        due("against", x.rule(2, 5), 0);
        due("the only answer", settled().rule(11, 5), 1);
    }

    @Edge(in = RULE, says = "NO_SUCH if there is no such rule;")
    static void noSuchRule() {
        for (int what = -1; what <= 6; what++) {
            due("without rules", new ParityRules().rule(0, what), NO_SUCH);
            for (int rule : outside(0, 0)) {
                due("of one " + rule, with(6, "0=0").rule(rule, what), NO_SUCH);
            }
            for (int rule : outside(0, 19)) {
                due("of twenty " + rule, full().rule(rule, what), NO_SUCH);
            }
        }
        due("the last one of twenty", full().rule(19, 0), 1);
    }

    @Edge(in = RULE, says = "BAD_VALUE if what is out of range.")
    static void noSuchWhatOfRules() {
        for (int what : outside(0, 5)) {
            due("what " + what, full().rule(0, what), BAD_VALUE);
            due("what " + what, full().rule(19, what), BAD_VALUE);
        }
    }

    @Edge(in = CHOICE, says = "0 what it is in all answers (1 taken, 0 not; NONE if they differ),")
    static void takenNotOrOpen() {
        ParityRules x = with(12, "11=1;10=0;0+1=1");
        due("taken", x.choice(11, 0), 1);
        due("not", x.choice(10, 0), 0);
        due("bound, but open", x.choice(0, 0), NONE);
        due("free", x.choice(9, 0), NONE);
        for (int c = 0; c < 12; c++) {
            due("of the only answer", settled().choice(c, 0), c % 2);
        }
        due("by all the rules together", with(3, "0+1=1;1+2=0;0+1+2=1").choice(0, 0), 1);
    }

    @Edge(in = CHOICE, says = "1 how many rules have it,")
    static void inNoRuleOrInAll() {
        ParityRules x = with(6, rows(18, "0=1") + ";0+5=1");
        x.tell(1, 0);
        due("in all, whatever their state", x.choice(0, 1), 20);
        due("in one", x.choice(5, 1), 1);
        due("in none", x.choice(1, 1), 0);
        due("without rules", new ParityRules().choice(0, 1), 0);
    }

    @Edge(in = CHOICE, says = "2 the choices that are the same, or the other one, in all answers by it, as a set: all choices c (but it) for which this one and c together have a known sum, and neither alone")
    static void boundToNoneOrAll() {
        ParityRules x = with(12, "0+1=1;1+2=0;2+3=1;3+4=0;4+5=1;5+6=0;6+7=1;7+8=0;8+9=1;9+10=0;10+11=1");
        for (int c = 0; c < 12; c++) {
            due("all others", x.choice(c, 2), 4095 & ~(1 << c));
        }
        due("settled ones", settled().choice(0, 2), 0);
        x.tell(32, 1);
        due("settled together", x.choice(0, 2), 0);
        x = with(4, "0+1=0;3=1");
        due("one", x.choice(0, 2), 2);
        due("free", x.choice(2, 2), 0);
        due("settled", x.choice(3, 2), 0);
        due("three together are no pair", with(3, "0+1+2=1").choice(0, 2), 0);
        due("the only choice", with(1, "").choice(0, 2), 0);
    }

    @Edge(in = CHOICE, says = "NO_SUCH if there is no such choice;")
    static void noSuchChoice() {
        for (int choices = 1; choices <= 12; choices++) {
            ParityRules x = with(choices, "");
            for (int choice : outside(0, choices - 1)) {
                for (int what = -1; what <= 3; what++) {
                    due(choice + " of " + choices, x.choice(choice, what), NO_SUCH);
                }
            }
            due("the last one", x.choice(choices - 1, 1), 0);
        }
    }

    @Edge(in = CHOICE, says = "BAD_VALUE if what is out of range.")
    static void noSuchWhatOfChoices() {
        for (int what : outside(0, 2)) {
            due("what " + what, new ParityRules().choice(0, what), BAD_VALUE);
            due("what " + what, new ParityRules().choice(5, what), BAD_VALUE);
        }
    }

    @Edge(in = COUNT, says = "0 rules, 1 kept ones, 2 those that follow, 3 those that are against,")
    static void countNoRulesOrTwenty() {
        ParityRules x = full();
        due("rules", x.count(0), 20);
        due("kept", x.count(1), 1);
        due("following", x.count(2), 19);
        due("against", x.count(3), 0);
        x.turn(0);
        due("following", x.count(2), 0);
        due("against", x.count(3), 19);
        due("kept", settled().count(1), 12);
        due("following", settled().count(2), 0);
        x = new ParityRules();
        for (int what = 0; what <= 3; what++) {
            due("without rules", x.count(what), 0);
        }
    }

    @Edge(in = COUNT, says = "4 answers,")
    static void countOneAnswerOrAll() {
        for (int choices = 1; choices <= 12; choices++) {
            due("without rules", with(choices, "").count(4), 1 << choices);
            due("with one", with(choices, "0=1").count(4), 1 << (choices - 1));
        }
        due("the only one", settled().count(4), 1);
        ParityRules x = settled();
        x.tell(1, 1);
        due("never none", x.count(4), 1);
    }

    @Edge(in = COUNT, says = "5 choices that are settled (the same in all answers), as a set,")
    static void settledNoneOrAll() {
        due("none", with(12, "").count(5), 0);
        due("none, though all are bound", with(2, "0+1=1").count(5), 0);
        due("the lowest", with(12, "0=0").count(5), 1);
        due("the highest", with(12, "11=1").count(5), 2048);
        due("all", settled().count(5), 4095);
        due("all of fewer", with(2, "0+1=1;1=0").count(5), 3);
    }

    @Edge(in = COUNT, says = "6 CHOICES, 7 the length of the pad, 8 how many changes can be undone")
    static void countLeastAndMost() {
        ParityRules x = new ParityRules();
        due("the pad", x.count(7), 0);
        due("changes", x.count(8), 0);
        put(x, "0".repeat(80));
        due("the pad", x.count(7), 80);
        for (int i = 0; i < 7; i++) {
            x.choices(i == 6 ? 1 : 12);
            due("CHOICES", x.count(6), i == 6 ? 1 : 12);
            due("changes", x.count(8), Math.min(i + 1, 6));
        }
    }

    @Edge(in = COUNT, says = "BAD_VALUE if what is out of range.")
    static void noSuchCount() {
        for (int what : outside(0, 8)) {
            due("what " + what, new ParityRules().count(what), BAD_VALUE);
        }
    }

    @Edge(in = ANSWER, says = "`place`: 0 for the lowest one")
    static void lowestAndHighestAnswer() {
        ParityRules x = with(12, "11=1;0+1=1");
        due("the lowest", x.answer(0), 2049);
        due("the next one", x.answer(1), 2050);
        due("the highest", x.answer(1023), 4094);
        due("of all", with(12, "").answer(0), 0);
        due("of all", with(12, "").answer(4095), 4095);
        due("of one", settled().answer(0), 2730);
    }

    @Edge(in = ANSWER, says = "NO_SUCH if there is no such place.")
    static void noSuchAnswer() {
        for (int choices = 1; choices <= 12; choices++) {
            for (int place : outside(0, (1 << choices) - 1)) {
                due(place + " of all", with(choices, "").answer(place), NO_SUCH);
            }
            for (int place : outside(0, (1 << choices - 1) - 1)) {
                due(place + " of half", with(choices, "0=1").answer(place), NO_SUCH);
            }
        }
        for (int place : outside(0, 0)) {
            due(place + " of one", settled().answer(place), NO_SUCH);
        }
    }

    @Edge(in = KNOWN, says = "`set`: a set of choices (perhaps empty)")
    static void emptyAndHighestSet() {
        due("the empty set", new ParityRules().known(0), 0);
        due("the empty set", with(1, "0=1").known(0), 0);
        due("the empty set", settled().known(0), 0);
        due("all", settled().known(4095), 0);
        due("all but the first", with(12, "0+1+2+3+4+5+6+7+8+9+10+11=1;0=0").known(4094), 1);
        due("all of one", with(1, "0=1").known(1), 1);
    }

    @Edge(in = KNOWN, says = "Returns 1 or 0;")
    static void bothSumsAreKnown() {
        ParityRules x = with(6, "0+5=1;1=1;1=0;2=0");
        due("1", x.known(33), 1);
        due("0", x.known(4), 0);
        due("0 by two", x.known(35), 0);
        due("a rule against does not count", x.known(2), 1);
    }

    @Edge(in = KNOWN, says = "BAD_VALUE if set is out of range;")
    static void knownOutOfRange() {
        for (int choices = 1; choices <= 12; choices++) {
            for (int set : outside(0, (1 << choices) - 1)) {
                due(set + " of " + choices, with(choices, "0=1").known(set), BAD_VALUE);
            }
        }
    }

    @Edge(in = KNOWN, says = "NONE if the answers differ.")
    static void notKnown() {
        for (int set = 1; set < 64; set++) {
            due("without rules", new ParityRules().known(set), NONE);
        }
        ParityRules x = with(2, "0+1=1");
        due("one of two", x.known(1), NONE);
        due("the other one", x.known(2), NONE);
        due("both", x.known(3), 1);
    }

    @Edge(in = NEAREST, says = "that differs from it in the fewest choices;")
    static void nearAndFar() {
        due("itself", with(12, "").nearest(4095, 0), 4095);
        due("itself", with(12, "").nearest(0, 1), 0);
        due("itself, the lowest one", with(3, "0=1;1=1").nearest(3, 0), 3);
        due("the only answer", settled().nearest(1365, 0), 2730);
        due("it differs in all", settled().nearest(1365, 1), 12);
        ParityRules x = with(4, "0+1=0;1+2=0;2+3=0");
        due("a lower one is farther", x.nearest(14, 0), 15);
        due("a higher one is farther", x.nearest(1, 0), 0);
    }

    @Edge(in = NEAREST, says = "of several the lowest one.")
    static void nearestOfSeveral() {
        due("of two", with(2, "0+1=0").nearest(1, 0), 0);
        due("of two", with(2, "0+1=0").nearest(2, 0), 0);
        due("of four", with(4, "0+1=0;2+3=0").nearest(5, 0), 0);
        ParityRules x = with(12, "0+1+2+3+4+5+6+7+8+9+10+11=1");
        due("of twelve", x.nearest(4095, 0), 2047);
        due("of twelve", x.nearest(0, 0), 1);
        x = with(7, "0+1+2+3+4+5+6=0");
        for (int wish = 1; wish < 128; wish++) {
            // Each choice alone mends an odd one; without its highest choice it is lowest.
            int lowest = Integer.bitCount(wish) % 2 == 0 ? wish : wish - Integer.highestOneBit(wish);
            due("of seven near " + wish, x.nearest(wish, 0), lowest);
        }
    }

    @Edge(in = NEAREST, says = "`wish`: an answer")
    static void lowestAndHighestWish() {
        for (int choices = 1; choices <= 12; choices++) {
            int last = (1 << choices) - 1;
            ParityRules x = with(choices, "0=1");
            due("the lowest wish", x.nearest(0, 0), 1);
            due("the highest wish", x.nearest(last, 0), last);
            due("one that fits no rule", x.nearest(last - 1, 1), 1);
        }
    }

    @Edge(in = NEAREST, says = "`what`: 0 the answer, 1 in how many choices it differs")
    static void bothOfNearest() {
        ParityRules x = with(3, "0=1;1=1");
        due("the answer", x.nearest(4, 0), 7);
        due("in how many", x.nearest(4, 1), 2);
    }

    @Edge(in = NEAREST, says = "BAD_VALUE if an argument is out of range.")
    static void nearestOutOfRange() {
        for (int choices = 1; choices <= 12; choices++) {
            for (int wish : outside(0, (1 << choices) - 1)) {
                due(wish + " of " + choices, with(choices, "").nearest(wish, 0), BAD_VALUE);
                due(wish + " of " + choices, with(choices, "").nearest(wish, 1), BAD_VALUE);
            }
        }
        for (int what : outside(0, 1)) {
            due("what " + what, new ParityRules().nearest(0, what), BAD_VALUE);
            due("what " + what + " and a bad wish", new ParityRules().nearest(64, what), BAD_VALUE);
        }
    }

    @Edge(in = BEST, says = "Finds the answer (of all there could be, whether they fit or not)")
    static void bestIsNoAnswer() {
        ParityRules x = with(2, "0=1;0=0;0=0");
        due("the answers take 0", x.choice(0, 0), 1);
        due("the best one does not", x.best(0), 0);
        for (int choices = 1; choices <= 12; choices++) {
            int last = (1 << choices) - 1;
            x = with(choices, "");
            due("the lowest of all", x.best(0), 0);
            due("of all", x.best(2), last + 1);
            for (int c = 0; c < choices; c++) {
                x.tell(1 << c, 1);
            }
            due("the highest of all", x.best(0), last);
            due("the only one", x.best(2), 1);
        }
    }

    @Edge(in = BEST, says = "that fits the most rules, kept or not;")
    static void bestOfTwentyRules() {
        due("all fit", full().best(1), 0);
        ParityRules x = with(6, rows(10, "0=0") + ";" + rows(10, "0=1"));
        due("half of them", x.best(1), 10);
        x.turn(0);
        due("one less", x.best(1), 9);
        due("the other way", x.best(0), 1);
        due("one against counts as much as one kept", with(1, "0=0;0=1;0=1").best(0), 1);
    }

    @Edge(in = BEST, says = "of several the lowest one.")
    static void bestOfSeveral() {
        due("of all", new ParityRules().best(0), 0);
        due("one way or the other", with(1, "0=1;0=0").best(0), 0);
        due("of half", with(12, "0+11=1").best(0), 1);
        due("of half", with(12, "11=1").best(0), 2048);
        ParityRules x = with(2, "1=1");
        due("of two", x.best(0), 2);
        x.turn(0);
        due("none, after a higher one", x.best(0), 0);
    }

    @Edge(in = BEST, says = "`what`: 0 the answer, 1 how many rules it does not fit, 2 how many answers fit as many")
    static void allOfBest() {
        ParityRules x = with(4, "1=1;2=1;2=0;0+1=1");
        due("the answer", x.best(0), 2);
        due("broken", x.best(1), 1);
        due("as good", x.best(2), 4);
        due("without rules none is broken", new ParityRules().best(1), 0);
        due("without rules all are as good", with(12, "").best(2), 4096);
    }

    @Edge(in = BEST, says = "BAD_VALUE if what is out of range.")
    static void bestOutOfRange() {
        for (int what : outside(0, 2)) {
            due("what " + what, new ParityRules().best(what), BAD_VALUE);
            due("what " + what, full().best(what), BAD_VALUE);
        }
    }

    @Edge(in = IF_TOLD, says = "Tells which state a rule would have, if it was told as the last one (however many rules there are).")
    static void ifToldToNoneAndToTwenty() {
        due("to none", new ParityRules().ifTold(1, 1), KEPT);
        ParityRules x = full();
        due("to twenty", x.ifTold(1, 0), FOLLOWS);
        due("to twenty", x.ifTold(1, 1), AGAINST);
        due("to twenty", x.ifTold(2, 1), KEPT);
        due("rules", x.count(0), 20);
        due("of all rules", settled().ifTold(4095, 0), FOLLOWS);
    }

    @Edge(in = IF_TOLD, says = "`set`: a set of choices, not empty")
    static void ifToldLowestAndHighestSet() {
        for (int choices = 1; choices <= 12; choices++) {
            due("the lowest set", with(choices, "").ifTold(1, 0), KEPT);
            due("the highest set", with(choices, "").ifTold((1 << choices) - 1, 0), KEPT);
            due("the empty set", with(choices, "").ifTold(0, 0), BAD_VALUE);
        }
    }

    @Edge(in = IF_TOLD, says = "`sum`: 0 or 1")
    static void ifToldBothSums() {
        ParityRules x = with(6, "0=1");
        due("0", x.ifTold(1, 0), AGAINST);
        due("1", x.ifTold(1, 1), FOLLOWS);
    }

    @Edge(in = IF_TOLD, says = "BAD_VALUE if an argument is out of range.")
    static void ifToldOutOfRange() {
        for (int choices = 1; choices <= 12; choices++) {
            ParityRules x = with(choices, "0=1");
            for (int set : outside(1, (1 << choices) - 1)) {
                due("set " + set + " of " + choices, x.ifTold(set, 0), BAD_VALUE);
            }
            for (int sum : outside(0, 1)) {
                due("sum " + sum, x.ifTold(1, sum), BAD_VALUE);
            }
        }
        due("with twenty rules", full().ifTold(64, 0), BAD_VALUE);
    }

    @Edge(in = IF_DROPPED, says = "Tells how many answers there would be without a rule.")
    static void ifDroppedFirstAndLast() {
        due("the only one", with(12, "0=0").ifDropped(0), 4096);
        due("the first of twelve", settled().ifDropped(0), 2);
        due("the last of twelve", settled().ifDropped(11), 2);
        due("the first of twenty", full().ifDropped(0), 32);
        due("the last of twenty", full().ifDropped(19), 32);
        due("one against would be kept", with(6, "0=0;0=1").ifDropped(0), 32);
        due("one against", with(6, "0=0;0=1").ifDropped(1), 32);
    }

    @Edge(in = IF_DROPPED, says = "NO_SUCH if there is no such rule.")
    static void ifDroppedNone() {
        due("without rules", new ParityRules().ifDropped(0), NO_SUCH);
        for (int rule : outside(0, 0)) {
            due("of one", with(6, "0=0").ifDropped(rule), NO_SUCH);
        }
        for (int rule : outside(0, 19)) {
            due("of twenty", full().ifDropped(rule), NO_SUCH);
        }
    }

    @Edge(in = IF_MOVED, says = "Tells how many rules would be against, if a rule was at another place.")
    static void ifMovedFromEndToEnd() {
        ParityRules x = with(6, rows(19, "0=0") + ";0=1");
        due("the last one to the first place", x.ifMoved(19, 0), 19);
        due("the first one to the last place", x.ifMoved(0, 19), 1);
        due("to the next place", x.ifMoved(19, 18), 1);
        due("none against", full().ifMoved(0, 19), 0);
        x = with(6, "0=0;1=0;0+1=1;0+1=1");
        due("up", x.ifMoved(3, 0), 1);
        due("down", x.ifMoved(0, 3), 1);
        due("between", x.ifMoved(1, 2), 1);
        due("as it is", x.count(3), 2);
    }

    @Edge(in = IF_MOVED, says = "`place`: a place of a rule")
    static void ifMovedToItsOwnPlace() {
        due("the only one", with(6, "0=0").ifMoved(0, 0), 0);
        ParityRules x = with(6, "0=0;0=1");
        for (int rule = 0; rule <= 1; rule++) {
            for (int place = 0; place <= 1; place++) {
                due(rule + " at " + place, x.ifMoved(rule, place), 1);
            }
        }
        same("nothing changes", rules(x), "6 1=0:0 1=1:2");
    }

    @Edge(in = IF_MOVED, says = "NO_SUCH if there is no such rule or place.")
    static void ifMovedNone() {
        due("without rules", new ParityRules().ifMoved(0, 0), NO_SUCH);
        for (int each : outside(0, 1)) {
            due("rule " + each, with(6, "0=0;1=0").ifMoved(each, 0), NO_SUCH);
            due("place " + each, with(6, "0=0;1=0").ifMoved(0, each), NO_SUCH);
            due("both " + each, with(6, "0=0;1=0").ifMoved(each, each), NO_SUCH);
        }
        for (int each : outside(0, 19)) {
            due("rule " + each, full().ifMoved(each, 0), NO_SUCH);
            due("place " + each, full().ifMoved(0, each), NO_SUCH);
        }
    }
}
