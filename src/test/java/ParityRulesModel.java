import java.util.ArrayDeque;
import java.util.ArrayList;
import java.util.Arrays;
import java.util.Deque;
import java.util.List;

/**
 * Long runs of calls, each compared with a model that takes the document's words as they stand: all
 * combinations of kept rules are tried, all answers are looked at, all ways to end a text are tried.
 */
public final class ParityRulesModel {
    private static final int NO_SUCH = -1, BAD_VALUE = -2, BAD_TEXT = -3, TOO_MANY = -4, NOT_POSSIBLE = -5, NONE = -6;
    private static final int RUNS = 400, CALLS = 512, MOST_SHOWN = 20;

    /** Steps of a fixed row of numbers, so that every run of the test is the same. */
    private static long seed = 20261119;

    private static int below(int bound) {
        seed = seed * 6364136223846793005L + 1442695040888963407L;
        return (int) ((seed >>> 33) % bound);
    }

    record Told(int set, int sum) {
    }

    record State(int choices, List<Told> rules) {
    }

    private static final class Model {
        State now = new State(6, List.of());
        final Deque<State> past = new ArrayDeque<>();
        final State[] slots = new State[2];
        String pad = "";

        // What the judging of the rules finds.
        int[] states = {};
        int[] reasons = {};
        List<Integer> answers = new ArrayList<>();

        Model() {
            judge();
        }

        static int sum(int set, int answer) {
            return Integer.bitCount(set & answer) % 2;
        }

        /** The kept rules whose combination is the set, or -1. */
        static int reason(int set, List<Told> rules, int[] states, int before) {
            List<Integer> kept = new ArrayList<>();
            for (int i = 0; i < before; i++) {
                if (states[i] == 0) {
                    kept.add(i);
                }
            }
            for (int some = 0; some < 1 << kept.size(); some++) {
                int combined = 0;
                int mask = 0;
                for (int k = 0; k < kept.size(); k++) {
                    if ((some >> k & 1) == 1) {
                        combined ^= rules.get(kept.get(k)).set();
                        mask |= 1 << kept.get(k);
                    }
                }
                if (combined == set) {
                    return mask;
                }
            }
            return -1;
        }

        static int state(Told told, List<Told> rules, int reason) {
            if (reason == -1) {
                return 0;
            }
            int combined = 0;
            for (int i = 0; i < rules.size(); i++) {
                combined ^= (reason >> i & 1) * rules.get(i).sum();
            }
            return combined == told.sum() ? 1 : 2;
        }

        static int[][] judged(State row) {
            int many = row.rules().size();
            int[][] both = new int[2][many];
            for (int i = 0; i < many; i++) {
                Told told = row.rules().get(i);
                int reason = reason(told.set(), row.rules(), both[0], i);
                both[0][i] = state(told, row.rules(), reason);
                both[1][i] = reason;
            }
            return both;
        }

        static List<Integer> answersOf(State row, int[] states) {
            List<Integer> found = new ArrayList<>();
            for (int answer = 0; answer < 1 << row.choices(); answer++) {
                boolean fits = true;
                for (int i = 0; i < states.length && fits; i++) {
                    Told told = row.rules().get(i);
                    fits = states[i] != 0 || sum(told.set(), answer) == told.sum();
                }
                if (fits) {
                    found.add(answer);
                }
            }
            return found;
        }

        void judge() {
            int[][] both = judged(now);
            states = both[0];
            reasons = both[1];
            answers = answersOf(now, states);
        }

        void change(State then) {
            past.addLast(now);
            if (past.size() > 6) {
                past.removeFirst();
            }
            now = then;
            judge();
        }

        int many() {
            return now.rules().size();
        }

        boolean isPlace(int place) {
            return place >= 0 && place < many();
        }

        boolean isSet(int set) {
            return set >= 0 && set < 1 << now.choices();
        }

        int choices(int many) {
            if (many < 1 || many > 12) {
                return BAD_VALUE;
            }
            for (Told told : now.rules()) {
                if (told.set() >= 1 << many) {
                    return NOT_POSSIBLE;
                }
            }
            int before = now.choices();
            change(new State(many, now.rules()));
            return before;
        }

        int tell(int set, int sum) {
            if (!isSet(set) || set == 0 || sum < 0 || sum > 1) {
                return BAD_VALUE;
            }
            if (many() == 20) {
                return TOO_MANY;
            }
            List<Told> rules = new ArrayList<>(now.rules());
            rules.add(new Told(set, sum));
            change(new State(now.choices(), rules));
            return states[many() - 1];
        }

        State without(int rule) {
            List<Told> rules = new ArrayList<>(now.rules());
            rules.remove(rule);
            return new State(now.choices(), rules);
        }

        State moved(int rule, int place) {
            List<Told> rules = new ArrayList<>(now.rules());
            rules.add(place, rules.remove(rule));
            return new State(now.choices(), rules);
        }

        int drop(int rule) {
            if (!isPlace(rule)) {
                return NO_SUCH;
            }
            change(without(rule));
            return many();
        }

        int move(int rule, int place) {
            if (!isPlace(rule) || !isPlace(place)) {
                return NO_SUCH;
            }
            List<Integer> before = new ArrayList<>();
            for (int state : states) {
                before.add(state);
            }
            before.add(place, before.remove(rule));
            change(moved(rule, place));
            int changed = 0;
            for (int i = 0; i < many(); i++) {
                changed += before.get(i) == states[i] ? 0 : 1;
            }
            return changed;
        }

        int turn(int rule) {
            if (!isPlace(rule)) {
                return NO_SUCH;
            }
            List<Told> rules = new ArrayList<>(now.rules());
            rules.set(rule, new Told(rules.get(rule).set(), 1 - rules.get(rule).sum()));
            change(new State(now.choices(), rules));
            return states[rule];
        }

        /** The rules of a text, null if it is none. */
        static List<Told> rulesOf(String text) {
            String choice = "(0|[1-9]|10|11)";
            String rule = choice + "(\\+" + choice + ")*=[01]";
            if (!text.matches(rule + "(;" + rule + ")*")) {
                return null;
            }
            List<Told> rules = new ArrayList<>();
            for (String one : text.split(";")) {
                String[] sides = one.split("=");
                int before = -1;
                int set = 0;
                for (String number : sides[0].split("\\+")) {
                    int here = Integer.parseInt(number);
                    if (here <= before) {
                        return null;
                    }
                    before = here;
                    set |= 1 << here;
                }
                rules.add(new Told(set, Integer.parseInt(sides[1])));
            }
            return rules;
        }

        static boolean canGoOn(String text) {
            for (String end : new String[] {"", "0", "=0", "0=0", "1=0", "11=0"}) {
                if (rulesOf(text + end) != null) {
                    return true;
                }
            }
            return false;
        }

        int fault() {
            for (int i = 0; i < pad.length(); i++) {
                if (!canGoOn(pad.substring(0, i + 1))) {
                    return i;
                }
            }
            return rulesOf(pad) == null ? pad.length() : NONE;
        }

        int read() {
            List<Told> found = rulesOf(pad);
            if (found == null) {
                return BAD_TEXT;
            }
            for (Told told : found) {
                if (!isSet(told.set())) {
                    return BAD_VALUE;
                }
            }
            if (many() + found.size() > 20) {
                return TOO_MANY;
            }
            List<Told> rules = new ArrayList<>(now.rules());
            rules.addAll(found);
            pad = "";
            change(new State(now.choices(), rules));
            return many();
        }

        int fitting(Told told) {
            int found = 0;
            for (int answer : answers) {
                found += sum(told.set(), answer) == told.sum() ? 1 : 0;
            }
            return found;
        }

        int rule(int rule, int what) {
            if (!isPlace(rule)) {
                return NO_SUCH;
            }
            if (what == 4) {
                int found = 0;
                for (int i = 0; i < many(); i++) {
                    found += states[i] != 0 && (reasons[i] >> rule & 1) == 1 ? 1 : 0;
                }
                return found;
            }
            Told told = now.rules().get(rule);
            return switch (what) {
                case 0 -> told.set();
                case 1 -> told.sum();
                case 2 -> states[rule];
                case 3 -> states[rule] == 0 ? NONE : reasons[rule];
                case 5 -> fitting(told);
                default -> BAD_VALUE;
            };
        }

        int sumIn(int set) {
            int ones = 0;
            for (int answer : answers) {
                ones += sum(set, answer);
            }
            return ones == 0 ? 0 : ones == answers.size() ? 1 : NONE;
        }

        int choice(int choice, int what) {
            if (choice < 0 || choice >= now.choices()) {
                return NO_SUCH;
            }
            int found = 0;
            switch (what) {
                case 0:
                    return sumIn(1 << choice);
                case 1:
                    for (Told told : now.rules()) {
                        found += told.set() >> choice & 1;
                    }
                    return found;
                case 2:
                    for (int c = 0; c < now.choices(); c++) {
                        if (c != choice && sumIn(1 << c | 1 << choice) != NONE && sumIn(1 << c) == NONE
                            && sumIn(1 << choice) == NONE) {
                            found |= 1 << c;
                        }
                    }
                    return found;
                default:
                    return BAD_VALUE;
            }
        }

        static int howMany(int[] states, int state) {
            return (int) Arrays.stream(states).filter(one -> one == state).count();
        }

        int settled() {
            int found = 0;
            for (int c = 0; c < now.choices(); c++) {
                found |= sumIn(1 << c) == NONE ? 0 : 1 << c;
            }
            return found;
        }

        int count(int what) {
            return switch (what) {
                case 0 -> many();
                case 1, 2, 3 -> howMany(states, what - 1);
                case 4 -> answers.size();
                case 5 -> settled();
                case 6 -> now.choices();
                case 7 -> pad.length();
                case 8 -> past.size();
                default -> BAD_VALUE;
            };
        }

        int answer(int place) {
            return place < 0 || place >= answers.size() ? NO_SUCH : answers.get(place);
        }

        int known(int set) {
            return isSet(set) ? sumIn(set) : BAD_VALUE;
        }

        int nearest(int wish, int what) {
            if (!isSet(wish) || what < 0 || what > 1) {
                return BAD_VALUE;
            }
            for (int far = 0; far <= 12; far++) {
                for (int answer : answers) {
                    if (Integer.bitCount(answer ^ wish) == far) {
                        return what == 0 ? answer : far;
                    }
                }
            }
            return -99;
        }

        int best(int what) {
            if (what < 0 || what > 2) {
                return BAD_VALUE;
            }
            int[] withSoMany = new int[21];
            int[] lowest = new int[21];
            for (int answer = (1 << now.choices()) - 1; answer >= 0; answer--) {
                int broken = 0;
                for (Told told : now.rules()) {
                    broken += sum(told.set(), answer) == told.sum() ? 0 : 1;
                }
                withSoMany[broken]++;
                lowest[broken] = answer;
            }
            int fewest = 0;
            while (withSoMany[fewest] == 0) {
                fewest++;
            }
            return what == 0 ? lowest[fewest] : what == 1 ? fewest : withSoMany[fewest];
        }

        int ifTold(int set, int sum) {
            if (!isSet(set) || set == 0 || sum < 0 || sum > 1) {
                return BAD_VALUE;
            }
            return state(new Told(set, sum), now.rules(), reason(set, now.rules(), states, many()));
        }

        int ifDropped(int rule) {
            if (!isPlace(rule)) {
                return NO_SUCH;
            }
            State then = without(rule);
            return answersOf(then, judged(then)[0]).size();
        }

        int ifMoved(int rule, int place) {
            return isPlace(rule) && isPlace(place) ? howMany(judged(moved(rule, place))[0], 2) : NO_SUCH;
        }

        int put(long characters) {
            String text = "";
            boolean ended = false;
            for (int i = 0; i < 8; i++) {
                int code = (int) (characters >>> 8 * i & 255);
                boolean right = code == 0 ? i > 0 : !ended && code >= 33 && code <= 126;
                if (!right) {
                    return BAD_VALUE;
                }
                ended = code == 0;
                text = ended ? text : (char) code + text;
            }
            if (pad.length() + text.length() > 80) {
                return TOO_MANY;
            }
            pad += text;
            return pad.length();
        }

        int wipe() {
            int before = pad.length();
            pad = "";
            return before;
        }

        int undo() {
            if (past.isEmpty()) {
                return NOT_POSSIBLE;
            }
            now = past.removeLast();
            judge();
            return past.size();
        }

        int save(int slot) {
            if (slot < 0 || slot > 1) {
                return BAD_VALUE;
            }
            slots[slot] = now;
            return many();
        }

        int restore(int slot) {
            if (slot < 0 || slot > 1) {
                return BAD_VALUE;
            }
            if (slots[slot] == null) {
                return NOT_POSSIBLE;
            }
            change(slots[slot]);
            return many();
        }
    }

    private static int wrong = 0;
    private static long compared = 0;

    private static void due(int run, int at, String call, int got, int want) {
        compared++;
        if (got != want) {
            wrong++;
            if (wrong <= MOST_SHOWN) {
                System.out.println("run " + run + ", call " + at + ": " + call + " answered " + got + ", due is " + want);
            }
        }
    }

    /** Mostly a number below the bound; sometimes one at its edges, or far away. */
    private static int number(int bound) {
        if (below(12) != 0) {
            return below(Math.max(1, bound));
        }
        int[] odd = {-1, bound, bound + 1, bound - 1, 0, Integer.MIN_VALUE, Integer.MAX_VALUE, -2};
        return odd[below(odd.length)];
    }

    private static int set(Model m) {
        int size = 1 << m.now.choices();
        // Sets of few choices, and combinations of what was told, make rules that follow or are against.
        if (below(3) == 0 && m.many() > 0) {
            int combined = 0;
            for (int i = 0; i < 1 + below(3); i++) {
                combined ^= m.now.rules().get(below(m.many())).set();
            }
            return combined;
        }
        return below(3) == 0 ? 1 << below(m.now.choices()) : number(size);
    }

    private static String text(Model m) {
        if (below(4) == 0) {
            String signs = "0123456789+=;0=1;10+11=1+0/:<~!";
            String text = "";
            for (int i = below(4); i >= 0; i--) {
                text += signs.charAt(below(signs.length()));
            }
            return text;
        }
        String text = "";
        int highest = below(6) == 0 ? 12 : m.now.choices();
        for (int i = below(3); i >= 0; i--) {
            String rule = "";
            for (int c = 0; c < highest; c++) {
                if (below(highest) < 2) {
                    rule += (rule.isEmpty() ? "" : "+") + c;
                }
            }
            text += (text.isEmpty() ? "" : ";") + (rule.isEmpty() ? "0" : rule) + "=" + below(2);
        }
        return text;
    }

    private static long packed(String text) {
        long characters = 0;
        for (int i = 0; i < text.length(); i++) {
            characters = characters << 8 | text.charAt(i);
        }
        if (below(15) == 0) {
            characters ^= 255L << 8 * below(8);
        }
        return below(40) == 0 ? characters << 8 : characters;
    }

    /** Puts a text in up to eight characters a call; returns how many calls it took. */
    private static int putText(int run, int at, ParityRules x, Model m) {
        String text = text(m);
        if (m.pad.length() > 0 && below(3) == 0) {
            text = ";" + text;
        } else if (below(2) == 0) {
            due(run, at, "wipe()", x.wipe(), m.wipe());
        }
        int calls = 1;
        for (int i = 0; i < text.length(); i += 8) {
            long characters = packed(text.substring(i, Math.min(i + 8, text.length())));
            due(run, at + calls, "put(" + characters + ")", x.put(characters), m.put(characters));
            calls++;
        }
        due(run, at + calls, "fault()", x.fault(), m.fault());
        return calls + 1;
    }

    /** Returns how many calls were made. */
    private static int change(int run, int at, ParityRules x, Model m) {
        int many = m.many();
        switch (below(13)) {
            case 0: {
                int a = number(13);
                due(run, at, "choices(" + a + ")", x.choices(a), m.choices(a));
                return 1;
            }
            case 1, 2, 3, 4: {
                int a = set(m);
                int b = number(2);
                due(run, at, "tell(" + a + ", " + b + ")", x.tell(a, b), m.tell(a, b));
                return 1;
            }
            case 5: {
                int a = number(many);
                due(run, at, "drop(" + a + ")", x.drop(a), m.drop(a));
                return 1;
            }
            case 6, 7: {
                int a = number(many);
                int b = number(many);
                due(run, at, "move(" + a + ", " + b + ")", x.move(a, b), m.move(a, b));
                return 1;
            }
            case 8: {
                int a = number(many);
                due(run, at, "turn(" + a + ")", x.turn(a), m.turn(a));
                return 1;
            }
            case 9: {
                due(run, at, "undo()", x.undo(), m.undo());
                return 1;
            }
            case 10: {
                int a = number(2);
                due(run, at, "save(" + a + ")", x.save(a), m.save(a));
                return 1;
            }
            case 11: {
                int a = number(2);
                due(run, at, "restore(" + a + ")", x.restore(a), m.restore(a));
                return 1;
            }
            default: {
                int calls = putText(run, at, x, m);
                due(run, at + calls, "read()", x.read(), m.read());
                return calls + 1;
            }
        }
    }

    private static void look(int run, int at, ParityRules x, Model m) {
        int a;
        int b;
        switch (below(10)) {
            case 0, 1:
                a = number(m.many());
                b = number(6);
                due(run, at, "rule(" + a + ", " + b + ")", x.rule(a, b), m.rule(a, b));
                break;
            case 2:
                a = number(m.now.choices());
                b = number(3);
                due(run, at, "choice(" + a + ", " + b + ")", x.choice(a, b), m.choice(a, b));
                break;
            case 3:
                a = number(9);
                due(run, at, "count(" + a + ")", x.count(a), m.count(a));
                break;
            case 4:
                a = number(m.answers.size());
                due(run, at, "answer(" + a + ")", x.answer(a), m.answer(a));
                a = set(m);
                due(run, at, "known(" + a + ")", x.known(a), m.known(a));
                break;
            case 5:
                a = number(1 << m.now.choices());
                b = number(2);
                due(run, at, "nearest(" + a + ", " + b + ")", x.nearest(a, b), m.nearest(a, b));
                break;
            case 6:
                a = number(3);
                due(run, at, "best(" + a + ")", x.best(a), m.best(a));
                break;
            case 7:
                a = set(m);
                b = number(2);
                due(run, at, "ifTold(" + a + ", " + b + ")", x.ifTold(a, b), m.ifTold(a, b));
                break;
            case 8:
                a = number(m.many());
                due(run, at, "ifDropped(" + a + ")", x.ifDropped(a), m.ifDropped(a));
                break;
            default:
                a = number(m.many());
                b = number(m.many());
                due(run, at, "ifMoved(" + a + ", " + b + ")", x.ifMoved(a, b), m.ifMoved(a, b));
        }
    }

    /** Everything that can be asked, once a run. */
    private static void lookAtAll(int run, ParityRules x, Model m) {
        for (int what = 0; what <= 8; what++) {
            due(run, CALLS, "count(" + what + ")", x.count(what), m.count(what));
        }
        for (int rule = 0; rule < m.many(); rule++) {
            for (int what = 0; what <= 5; what++) {
                due(run, CALLS, "rule(" + rule + ", " + what + ")", x.rule(rule, what), m.rule(rule, what));
            }
        }
        for (int choice = 0; choice < m.now.choices(); choice++) {
            for (int what = 0; what <= 2; what++) {
                due(run, CALLS, "choice(" + choice + ", " + what + ")", x.choice(choice, what), m.choice(choice, what));
            }
        }
        for (int place = 0; place <= m.answers.size(); place++) {
            due(run, CALLS, "answer(" + place + ")", x.answer(place), m.answer(place));
        }
        due(run, CALLS, "fault()", x.fault(), m.fault());
    }

    public static void main(String[] args) {
        for (int run = 0; run < RUNS; run++) {
            ParityRules x = new ParityRules();
            Model m = new Model();
            int at = 0;
            while (at < CALLS - 40) {
                at += change(run, at, x, m);
                if (below(2) == 0) {
                    look(run, at, x, m);
                    at += 2;
                }
            }
            lookAtAll(run, x, m);
        }
        System.out.println(compared + " answers compared, " + wrong + " are not as due");
        if (wrong != 0) {
            System.exit(1);
        }
    }
}
