import java.util.ArrayList;
import java.util.HashMap;
import java.util.HashSet;
import java.util.List;
import java.util.Map;
import java.util.Set;

/**
 * All that is small: every row of a few rules over a few choices with every question about it, and every
 * text of a few characters. What is due comes from a list of all combinations and all answers.
 */
public final class ParityRulesSmall extends Checks {
    /** How many rules a row has at most, by the number of choices. */
    private static final int[] MOST_RULES = {0, 5, 4, 3, 2};
    private static final String SIGNS = "0125+=;";
    private static final int MOST_SIGNS = 6;

    record Told(int set, int sum) {
        boolean fits(int answer) {
            return Integer.bitCount(set & answer) % 2 == sum;
        }
    }

    /** A sum, and the rules whose combination has it. */
    record Combined(int sum, int rules) {
    }

    /** A row of rules with their states and reasons, and the answers. */
    private static final class Judged {
        final List<Told> rules;
        final Map<Integer, Combined> combinations = new HashMap<>();
        final List<Integer> states = new ArrayList<>();
        final List<Integer> reasons = new ArrayList<>();
        final List<Integer> answers = new ArrayList<>();

        Judged(int choices, List<Told> rules) {
            this.rules = rules;
            combinations.put(0, new Combined(0, 0));
            for (Told told : rules) {
                int state = state(told);
                reasons.add(state == KEPT ? NONE : combinations.get(told.set).rules);
                states.add(state);
                if (state == KEPT) {
                    combine(told);
                }
            }
            for (int answer = 0; answer < 1 << choices; answer++) {
                if (fitsAllKept(answer)) {
                    answers.add(answer);
                }
            }
        }

        int state(Told told) {
            Combined found = combinations.get(told.set);
            return found == null ? KEPT : found.sum == told.sum ? FOLLOWS : AGAINST;
        }

        private void combine(Told told) {
            int rule = 1 << states.size() - 1;
            new HashMap<>(combinations).forEach((set, other) ->
                combinations.put(set ^ told.set, new Combined(other.sum ^ told.sum, other.rules | rule)));
        }

        private boolean fitsAllKept(int answer) {
            boolean fits = true;
            for (int i = 0; i < rules.size(); i++) {
                fits &= states.get(i) != KEPT || rules.get(i).fits(answer);
            }
            return fits;
        }

        int fitting(Told told) {
            return (int) answers.stream().filter(told::fits).count();
        }

        int sumOf(int set) {
            int odd = fitting(new Told(set, 1));
            return odd == 0 ? 0 : odd == answers.size() ? 1 : NONE;
        }

        int many(int state) {
            return (int) states.stream().filter(one -> one == state).count();
        }
    }

    private static List<Told> without(List<Told> rules, int rule) {
        List<Told> left = new ArrayList<>(rules);
        left.remove(rule);
        return left;
    }

    private static List<Told> with(List<Told> rules, int place, Told told) {
        List<Told> more = new ArrayList<>(rules);
        more.add(place, told);
        return more;
    }

    private static void ruleByRule(ParityRules x, int choices, Judged due) {
        int many = due.rules.size();
        for (int i = 0; i < many; i++) {
            Told told = due.rules.get(i);
            due("set", x.rule(i, 0), told.set);
            due("sum", x.rule(i, 1), told.sum);
            due("state", x.rule(i, 2), due.states.get(i));
            due("reason", x.rule(i, 3), due.reasons.get(i));
            int rule = 1 << i;
            due("reasons", x.rule(i, 4), due.reasons.stream().filter(reason -> reason != NONE && (reason & rule) != 0).count());
            due("fitting", x.rule(i, 5), due.fitting(told));
            List<Told> left = without(due.rules, i);
            due("ifDropped", x.ifDropped(i), new Judged(choices, left).answers.size());
            for (int place = 0; place < many; place++) {
                due("ifMoved", x.ifMoved(i, place), new Judged(choices, with(left, place, told)).many(AGAINST));
            }
        }
    }

    private static void choiceByChoice(ParityRules x, int choices, Judged due) {
        int settled = 0;
        for (int c = 0; c < choices; c++) {
            int own = 1 << c;
            settled |= due.sumOf(own) == NONE ? 0 : own;
            due("taken", x.choice(c, 0), due.sumOf(own));
            due("rules with it", x.choice(c, 1), due.rules.stream().filter(told -> (told.set & own) != 0).count());
            int bound = 0;
            for (int other = 1; other < 1 << choices; other <<= 1) {
                boolean open = due.sumOf(own) == NONE && due.sumOf(other) == NONE;
                bound |= other != own && open && due.sumOf(own | other) != NONE ? other : 0;
            }
            due("bound", x.choice(c, 2), bound);
        }
        due("settled", x.count(5), settled);
    }

    private static void setBySet(ParityRules x, int choices, Judged due) {
        for (int set = 0; set < 1 << choices; set++) {
            due("known", x.known(set), due.sumOf(set));
            int nearest = due.answers.get(0);
            for (int answer : due.answers) {
                nearest = Integer.bitCount(answer ^ set) < Integer.bitCount(nearest ^ set) ? answer : nearest;
            }
            due("nearest", x.nearest(set, 0), nearest);
            due("how far", x.nearest(set, 1), Integer.bitCount(nearest ^ set));
            for (int sum = 0; sum <= 1; sum++) {
                due("ifTold", x.ifTold(set, sum), set == 0 ? BAD_VALUE : due.state(new Told(set, sum)));
            }
        }
    }

    private static void best(ParityRules x, int choices, Judged due) {
        int best = 0;
        int fewest = due.rules.size() + 1;
        int asGood = 0;
        for (int answer = 0; answer < 1 << choices; answer++) {
            int broken = 0;
            for (Told told : due.rules) {
                broken += told.fits(answer) ? 0 : 1;
            }
            best = broken < fewest ? answer : best;
            asGood = broken < fewest ? 1 : broken == fewest ? asGood + 1 : asGood;
            fewest = Math.min(fewest, broken);
        }
        due("best", x.best(0), best);
        due("broken", x.best(1), fewest);
        due("as good", x.best(2), asGood);
    }

    private static void row(int choices, List<Told> rules) {
        part = choices + " choices, " + rules;
        Judged due = new Judged(choices, rules);
        ParityRules x = new ParityRules();
        x.choices(choices);
        for (int i = 0; i < rules.size(); i++) {
            due("tell", x.tell(rules.get(i).set, rules.get(i).sum), due.states.get(i));
        }
        due("rules", x.count(0), rules.size());
        for (int state = KEPT; state <= AGAINST; state++) {
            due("state " + state, x.count(1 + state), due.many(state));
        }
        due("answers", x.count(4), due.answers.size());
        for (int place = 0; place < due.answers.size(); place++) {
            due("answer", x.answer(place), due.answers.get(place));
        }
        due("no answer", x.answer(due.answers.size()), NO_SUCH);
        ruleByRule(x, choices, due);
        choiceByChoice(x, choices, due);
        setBySet(x, choices, due);
        best(x, choices, due);
    }

    private static void rows(int choices, List<Told> rules) {
        row(choices, rules);
        for (int set = 1; set < 1 << choices && rules.size() < MOST_RULES[choices]; set++) {
            rows(choices, with(rules, rules.size(), new Told(set, 0)));
            rows(choices, with(rules, rules.size(), new Told(set, 1)));
        }
    }

    /** Every rule that can be written. */
    private static Set<String> allRules() {
        Set<String> all = new HashSet<>();
        for (int set = 1; set < 4096; set++) {
            StringBuilder text = new StringBuilder();
            for (int c = 0; c < 12; c++) {
                text.append((set >> c & 1) == 0 ? "" : (text.length() == 0 ? "" : "+") + c);
            }
            all.add(text + "=0");
            all.add(text + "=1");
        }
        return all;
    }

    private static Set<String> beginnings(Set<String> rules) {
        Set<String> all = new HashSet<>();
        for (String rule : rules) {
            for (int length = 0; length <= rule.length(); length++) {
                all.add(rule.substring(0, length));
            }
        }
        return all;
    }

    /** Every text that begins so: a rule behind its last ";" may go on, and each one ahead of that is whole. */
    private static void texts(String text, int firstWrong, Set<String> rules, Set<String> beginnings) {
        String last = text.substring(text.lastIndexOf(';') + 1);
        part = "texts";
        fault(text, firstWrong >= 0 ? firstWrong : rules.contains(last) ? NONE : text.length());
        for (int i = 0; i < SIGNS.length() && text.length() < MOST_SIGNS; i++) {
            char sign = SIGNS.charAt(i);
            boolean stands = sign == ';' ? rules.contains(last) : beginnings.contains(last + sign);
            texts(text + sign, firstWrong >= 0 || stands ? firstWrong : text.length(), rules, beginnings);
        }
    }

    public static void main(String[] args) {
        for (int choices = 1; choices < MOST_RULES.length; choices++) {
            rows(choices, List.of());
        }
        Set<String> rules = allRules();
        texts("", -1, rules, beginnings(rules));
        finish();
    }
}
