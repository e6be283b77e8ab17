/**
 * Choices whose parity must agree: a row of rules over at most twelve choices, each rule judged by
 * the kept ones ahead of it, and the answers that fit the kept rules.
 *
 * <p>All rows are made with the object and used again: no call makes an object.
 */
public final class ParityRules {
    public static final int NO_SUCH = -1, BAD_VALUE = -2, BAD_TEXT = -3, TOO_MANY = -4, NOT_POSSIBLE = -5, NONE = -6;
    public static final int KEPT = 0, FOLLOWS = 1, AGAINST = 2;

    private static final int MOST_CHOICES = 12;
    private static final int FIRST_CHOICES = 6;
    private static final int MOST_RULES = 20;
    private static final int MOST_CHARACTERS = 80;
    private static final int CHARACTERS_IN_A_LONG = 8;
    private static final int MOST_PAST = 6;
    private static final int SLOTS = 2;

    private final Row now = new Row();
    private final Verdict verdict = new Verdict();
    private final Row trialRow = new Row();
    private final Verdict trialVerdict = new Verdict();
    private final int[] statesBefore = new int[MOST_RULES];
    private final BestAnswer bestAnswer = new BestAnswer();
    private final Pad pad = new Pad();
    private final Row padRules = new Row();
    private final History history = new History();
    private final Row[] slots = new Row[SLOTS];
    private final boolean[] saved = new boolean[SLOTS];

    public ParityRules() {
        for (int i = 0; i < SLOTS; i++) {
            slots[i] = new Row();
        }
        verdict.judge(now);
    }

    // ---- changes

    public int choices(int many) {
        if (many < 1 || many > MOST_CHOICES) {
            return BAD_VALUE;
        }
        if (!now.setsStayBelow(many)) {
            return NOT_POSSIBLE;
        }
        int before = now.choices;
        history.remember(now);
        now.choices = many;
        verdict.judge(now);
        return before;
    }

    public int tell(int set, int sum) {
        if (!isRule(set, sum)) {
            return BAD_VALUE;
        }
        if (now.many >= MOST_RULES) {
            return TOO_MANY;
        }
        history.remember(now);
        now.append(set, sum);
        verdict.judge(now);
        return verdict.states[now.many - 1];
    }

    public int drop(int rule) {
        if (!now.hasPlace(rule)) {
            return NO_SUCH;
        }
        history.remember(now);
        now.takeOut(rule);
        verdict.judge(now);
        return now.many;
    }

    public int move(int rule, int place) {
        if (!now.hasPlace(rule) || !now.hasPlace(place)) {
            return NO_SUCH;
        }
        history.remember(now);
        System.arraycopy(verdict.states, 0, statesBefore, 0, MOST_RULES);
        // The old states travel with their rules, so that each rule is compared with itself.
        carry(statesBefore, rule, place);
        now.carryRule(rule, place);
        verdict.judge(now);
        int changed = 0;
        for (int i = 0; i < now.many; i++) {
            if (verdict.states[i] != statesBefore[i]) {
                changed++;
            }
        }
        return changed;
    }

    public int turn(int rule) {
        if (!now.hasPlace(rule)) {
            return NO_SUCH;
        }
        history.remember(now);
        now.sums[rule] = 1 - now.sums[rule];
        verdict.judge(now);
        return verdict.states[rule];
    }

    public int read() {
        if (pad.readInto(padRules) != NONE) {
            return BAD_TEXT;
        }
        if (!padRules.setsStayBelow(now.choices)) {
            return BAD_VALUE;
        }
        if (now.many + padRules.many > MOST_RULES) {
            return TOO_MANY;
        }
        history.remember(now);
        for (int i = 0; i < padRules.many; i++) {
            now.append(padRules.sets[i], padRules.sums[i]);
        }
        pad.length = 0;
        verdict.judge(now);
        return now.many;
    }

    // ---- what there is

    public int rule(int rule, int what) {
        if (!now.hasPlace(rule)) {
            return NO_SUCH;
        }
        int state = verdict.states[rule];
        switch (what) {
            case 0:
                return now.sets[rule];
            case 1:
                return now.sums[rule];
            case 2:
                return state;
            case 3:
                return state == KEPT ? NONE : verdict.reasons[rule];
            case 4:
                return verdict.reasonsWith(rule);
            case 5:
                // The kept rules fix the sum of every rule that is not kept: all answers agree on it.
                return state == AGAINST ? 0 : verdict.answers();
            default:
                return BAD_VALUE;
        }
    }

    public int choice(int choice, int what) {
        if (choice < 0 || choice >= now.choices) {
            return NO_SUCH;
        }
        switch (what) {
            case 0:
                return verdict.sumOf(1 << choice);
            case 1:
                return now.rulesWith(choice);
            case 2:
                return verdict.boundTo(choice);
            default:
                return BAD_VALUE;
        }
    }

    public int count(int what) {
        switch (what) {
            case 0:
                return now.many;
            case 1:
                return verdict.tally[KEPT];
            case 2:
                return verdict.tally[FOLLOWS];
            case 3:
                return verdict.tally[AGAINST];
            case 4:
                return verdict.answers();
            case 5:
                return verdict.settled();
            case 6:
                return now.choices;
            case 7:
                return pad.length;
            case 8:
                return history.many;
            default:
                return BAD_VALUE;
        }
    }

    // ---- answers; nothing changes

    public int answer(int place) {
        if (place < 0 || place >= verdict.answers()) {
            return NO_SUCH;
        }
        return verdict.answerAt(place);
    }

    public int known(int set) {
        return now.hasSet(set) ? verdict.sumOf(set) : BAD_VALUE;
    }

    public int nearest(int wish, int what) {
        if (!now.hasSet(wish) || what < 0 || what > 1) {
            return BAD_VALUE;
        }
        int found = verdict.nearestTo(wish);
        return what == 0 ? found : Integer.bitCount(found ^ wish);
    }

    public int best(int what) {
        if (what < 0 || what > 2) {
            return BAD_VALUE;
        }
        bestAnswer.find(now);
        if (what == 0) {
            return bestAnswer.lowest;
        }
        return what == 1 ? bestAnswer.broken : bestAnswer.asGood;
    }

    // ---- what if; nothing changes

    public int ifTold(int set, int sum) {
        return isRule(set, sum) ? verdict.stateOf(set, sum) : BAD_VALUE;
    }

    public int ifDropped(int rule) {
        if (!now.hasPlace(rule)) {
            return NO_SUCH;
        }
        trialRow.become(now);
        trialRow.takeOut(rule);
        trialVerdict.judge(trialRow);
        return trialVerdict.answers();
    }

    public int ifMoved(int rule, int place) {
        if (!now.hasPlace(rule) || !now.hasPlace(place)) {
            return NO_SUCH;
        }
        trialRow.become(now);
        trialRow.carryRule(rule, place);
        trialVerdict.judge(trialRow);
        return trialVerdict.tally[AGAINST];
    }

    // ---- texts

    public int put(long characters) {
        int many = charactersIn(characters);
        if (many == 0) {
            return BAD_VALUE;
        }
        if (pad.length + many > MOST_CHARACTERS) {
            return TOO_MANY;
        }
        for (int i = many - 1; i >= 0; i--) {
            pad.append((char) ((characters >>> (8 * i)) & 255));
        }
        return pad.length;
    }

    public int wipe() {
        int before = pad.length;
        pad.length = 0;
        return before;
    }

    public int fault() {
        return pad.readInto(padRules);
    }

    // ---- undo, saving

    public int undo() {
        if (history.many == 0) {
            return NOT_POSSIBLE;
        }
        history.giveBack(now);
        verdict.judge(now);
        return history.many;
    }

    public int save(int slot) {
        if (slot < 0 || slot >= SLOTS) {
            return BAD_VALUE;
        }
        slots[slot].become(now);
        saved[slot] = true;
        return now.many;
    }

    public int restore(int slot) {
        if (slot < 0 || slot >= SLOTS) {
            return BAD_VALUE;
        }
        if (!saved[slot]) {
            return NOT_POSSIBLE;
        }
        history.remember(now);
        now.become(slots[slot]);
        verdict.judge(now);
        return now.many;
    }

    // ---- helpers

    private boolean isRule(int set, int sum) {
        return set != 0 && now.hasSet(set) && (sum == 0 || sum == 1);
    }

    /** How many characters the number holds, 0 if it is not a row of characters for the pad. */
    private static int charactersIn(long characters) {
        long rest = characters;
        int many = 0;
        while (many < CHARACTERS_IN_A_LONG && (rest & 255) != 0) {
            long code = rest & 255;
            if (code < 33 || code > 126) {
                return 0;
            }
            rest >>>= 8;
            many++;
        }
        return rest == 0 ? many : 0;
    }

    private static int parity(int bits) {
        return Integer.bitCount(bits) & 1;
    }

    /** The place of the lowest bit of a number that is not 0. */
    private static int lowestBit(int bits) {
        return Integer.bitCount(~bits & (bits - 1));
    }

    private static void carry(int[] row, int from, int to) {
        int carried = row[from];
        for (int i = from; i < to; i++) {
            row[i] = row[i + 1];
        }
        for (int i = from; i > to; i--) {
            row[i] = row[i - 1];
        }
        row[to] = carried;
    }

    /** The choices and the row of rules: all that undo and the slots bring back. */
    private static final class Row {
        int choices = FIRST_CHOICES;
        int many;
        final int[] sets = new int[MOST_RULES];
        final int[] sums = new int[MOST_RULES];

        boolean hasPlace(int place) {
            return place >= 0 && place < many;
        }

        boolean hasSet(int set) {
            return set >= 0 && set < 1 << choices;
        }

        boolean setsStayBelow(int choice) {
            int all = 0;
            for (int i = 0; i < many; i++) {
                all |= sets[i];
            }
            return all >> choice == 0;
        }

        int rulesWith(int choice) {
            int found = 0;
            for (int i = 0; i < many; i++) {
                found += sets[i] >> choice & 1;
            }
            return found;
        }

        void become(Row other) {
            choices = other.choices;
            many = other.many;
            System.arraycopy(other.sets, 0, sets, 0, MOST_RULES);
            System.arraycopy(other.sums, 0, sums, 0, MOST_RULES);
        }

        void append(int set, int sum) {
            if (many < MOST_RULES) {
                sets[many] = set;
                sums[many] = sum;
                many++;
            }
        }

        void carryRule(int from, int to) {
            carry(sets, from, to);
            carry(sums, from, to);
        }

        void takeOut(int place) {
            carryRule(place, many - 1);
            many--;
        }
    }

    /**
     * What follows from a row of rules. The kept rules are held as steps: combinations of them, each
     * under its lowest choice, which no two share. A choice without a step is free in the answers;
     * one with a step is fixed by the choices above it.
     */
    private static final class Verdict {
        int choices;
        int many;
        final int[] states = new int[MOST_RULES];
        final int[] reasons = new int[MOST_RULES];
        final int[] tally = new int[3];
        final int[] stepSets = new int[MOST_CHOICES];
        final int[] stepSums = new int[MOST_CHOICES];
        final int[] stepReasons = new int[MOST_CHOICES];
        int restSet;
        int restSum;
        int restReason;
        final int[] exchanges = new int[MOST_CHOICES];

        void judge(Row row) {
            choices = row.choices;
            many = 0;
            for (int state = KEPT; state <= AGAINST; state++) {
                tally[state] = 0;
            }
            for (int c = 0; c < MOST_CHOICES; c++) {
                stepSets[c] = 0;
            }
            for (int i = 0; i < row.many; i++) {
                judgeNext(row.sets[i], row.sums[i]);
            }
        }

        private void judgeNext(int set, int sum) {
            int state = stateOf(set, sum);
            if (state == KEPT) {
                int c = lowestBit(restSet);
                stepSets[c] = restSet;
                stepSums[c] = restSum;
                stepReasons[c] = restReason | 1 << many;
            }
            states[many] = state;
            reasons[many] = state == KEPT ? 0 : restReason;
            tally[state]++;
            many++;
        }

        int stateOf(int set, int sum) {
            combine(set, sum);
            if (restSet != 0) {
                return KEPT;
            }
            return restSum == 0 ? FOLLOWS : AGAINST;
        }

        int sumOf(int set) {
            combine(set, 0);
            return restSet == 0 ? restSum : NONE;
        }

        /** Leaves what the steps cannot make of a set, and the rules whose combination was used. */
        private void combine(int set, int sum) {
            restSet = set;
            restSum = sum;
            restReason = 0;
            // A step has no choice below its own: going up, no choice comes back that was done.
            for (int c = 0; c < MOST_CHOICES; c++) {
                if ((restSet >> c & 1) == 1 && stepSets[c] != 0) {
                    restSet ^= stepSets[c];
                    restSum ^= stepSums[c];
                    restReason ^= stepReasons[c];
                }
            }
        }

        int reasonsWith(int rule) {
            int found = 0;
            for (int i = 0; i < many; i++) {
                found += reasons[i] >> rule & 1;
            }
            return found;
        }

        int settled() {
            int found = 0;
            for (int c = 0; c < choices; c++) {
                if (sumOf(1 << c) != NONE) {
                    found |= 1 << c;
                }
            }
            return found;
        }

        int boundTo(int choice) {
            int own = 1 << choice;
            if (sumOf(own) != NONE) {
                return 0;
            }
            int found = 0;
            for (int c = 0; c < choices; c++) {
                // This one is open: where the sum of both is known, the other one is open, too.
                if (c != choice && sumOf(own | 1 << c) != NONE) {
                    found |= 1 << c;
                }
            }
            return found;
        }

        int answers() {
            return 1 << (choices - tally[KEPT]);
        }

        /** The free choices, read from above, are the bits of the place: so the answers ascend. */
        int answerAt(int place) {
            int free = choices - tally[KEPT];
            int answer = 0;
            for (int c = choices - 1; c >= 0; c--) {
                int taken;
                if (stepSets[c] == 0) {
                    free--;
                    taken = place >> free & 1;
                } else {
                    taken = stepSums[c] ^ parity(stepSets[c] & answer);
                }
                answer |= taken << c;
            }
            return answer;
        }

        int nearestTo(int wish) {
            fillExchanges();
            int answer = answerAt(0);
            int found = answer;
            int fewest = Integer.bitCount(answer ^ wish);
            int last = answers() - 1;
            for (int place = 1; place <= last; place++) {
                answer ^= exchanges[lowestBit(place)];
                int differing = Integer.bitCount(answer ^ wish);
                if (differing < fewest) {
                    fewest = differing;
                    found = answer;
                }
            }
            return found;
        }

        /** Counting up exchanges a place's lowest bits: by how many, tells how the answer changes. */
        private void fillExchanges() {
            int lowest = answerAt(0);
            int free = choices - tally[KEPT];
            for (int i = 0; i < free; i++) {
                exchanges[i] = lowest ^ answerAt((2 << i) - 1);
            }
        }
    }

    /** The answer that fits the most rules, found by a walk through all there could be. */
    private static final class BestAnswer {
        int lowest;
        int broken;
        int asGood;
        final int[] exchanges = new int[MOST_CHOICES];

        void find(Row row) {
            fillExchanges(row);
            int rules = brokenByNone(row);
            lowest = 0;
            broken = Integer.bitCount(rules);
            asGood = 1;
            int last = (1 << row.choices) - 1;
            for (int answer = 1; answer <= last; answer++) {
                rules ^= exchanges[lowestBit(answer)];
                int many = Integer.bitCount(rules);
                if (many < broken) {
                    lowest = answer;
                    broken = many;
                    asGood = 1;
                } else if (many == broken) {
                    asGood++;
                }
            }
        }

        /** The rules that the answer without any choice does not fit. */
        private static int brokenByNone(Row row) {
            int rules = 0;
            for (int i = 0; i < row.many; i++) {
                rules |= row.sums[i] << i;
            }
            return rules;
        }

        /** Counting up exchanges an answer's lowest choices: by how many, tells which rules' sums change. */
        private void fillExchanges(Row row) {
            for (int c = 0; c < row.choices; c++) {
                int lowChoices = (2 << c) - 1;
                int rules = 0;
                for (int i = 0; i < row.many; i++) {
                    rules |= parity(row.sets[i] & lowChoices) << i;
                }
                exchanges[c] = rules;
            }
        }
    }

    /** The text, and how far its reading has come. */
    private static final class Pad {
        private static final int AT_CHOICE = 0, IN_CHOICE = 1, AT_SUM = 2, BEHIND_RULE = 3;

        final char[] characters = new char[MOST_CHARACTERS];
        int length;
        private int stage;
        private int choiceAhead;
        private int choiceHere;
        private int set;

        void append(char character) {
            if (length < MOST_CHARACTERS) {
                characters[length] = character;
                length++;
            }
        }

        /** Returns the fault; the row then has the rules that end ahead of it. */
        int readInto(Row rules) {
            rules.many = 0;
            startRule();
            for (int i = 0; i < length; i++) {
                if (!canStand(characters[i], rules)) {
                    return i;
                }
            }
            return stage == BEHIND_RULE ? NONE : length;
        }

        private void startRule() {
            stage = AT_CHOICE;
            choiceAhead = -1;
            set = 0;
        }

        private boolean canStand(char character, Row rules) {
            switch (stage) {
                case AT_CHOICE:
                    return canStartChoice(character);
                case IN_CHOICE:
                    return canStandInChoice(character);
                case AT_SUM:
                    return canBeSum(character, rules);
                default:
                    if (character != ';') {
                        return false;
                    }
                    startRule();
                    return true;
            }
        }

        private boolean canStartChoice(char character) {
            if (character < '0' || character > '9') {
                return false;
            }
            int digit = character - '0';
            // A 1 may still become 11.
            int highest = digit == 1 ? MOST_CHOICES - 1 : digit;
            if (highest <= choiceAhead) {
                return false;
            }
            choiceHere = digit;
            stage = IN_CHOICE;
            return true;
        }

        private boolean canStandInChoice(char character) {
            if (choiceHere == 1 && (character == '0' || character == '1')) {
                choiceHere = 10 + character - '0';
                return choiceHere > choiceAhead;
            }
            boolean ends = character == '=' || character == '+' && choiceHere < MOST_CHOICES - 1;
            // A 1 that has not become 10 or 11 may be too low.
            if (!ends || choiceHere <= choiceAhead) {
                return false;
            }
            set |= 1 << choiceHere;
            choiceAhead = choiceHere;
            stage = character == '+' ? AT_CHOICE : AT_SUM;
            return true;
        }

        private boolean canBeSum(char character, Row rules) {
            if (character != '0' && character != '1') {
                return false;
            }
            rules.append(set, character - '0');
            stage = BEHIND_RULE;
            return true;
        }
    }

    /** The states before the latest changes, the oldest one first. */
    private static final class History {
        final Row[] states = new Row[MOST_PAST];
        int many;

        History() {
            for (int i = 0; i < MOST_PAST; i++) {
                states[i] = new Row();
            }
        }

        void remember(Row row) {
            if (many >= MOST_PAST) {
                dropOldest();
            }
            states[many].become(row);
            many++;
        }

        private void dropOldest() {
            Row oldest = states[0];
            for (int i = 1; i < MOST_PAST; i++) {
                states[i - 1] = states[i];
            }
            // Its row stays in use, for the next state that is recorded.
            states[MOST_PAST - 1] = oldest;
            many = MOST_PAST - 1;
        }

        void giveBack(Row row) {
            if (many > 0) {
                many--;
                row.become(states[many]);
            }
        }
    }
}
