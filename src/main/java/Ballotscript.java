/**
 * A house of votes: rolls, rules that are told in a small language, ballots, a recount desk and
 * counts. Nothing of a count is kept: each question counts anew by what is told by now.
 */
public final class Ballotscript {
    public static final int NONE = -1;
    public static final int COUNTS = 0, LATER = 1, BARRED = 2;

    private static final int LAST_DAY = 1000;
    private static final int LONGEST_PASS = 100;
    private static final int ROLLS = 3;
    private static final int PERSONS = 20;
    private static final int MOST_ENTRIES = 60;
    private static final int MOST_LETTERS = 24;
    private static final int MOST_RULES = 8;
    private static final int MOST_VOTES = 8;
    private static final int FEWEST_CANDIDATES = 2;
    private static final int MOST_CANDIDATES = 6;
    private static final int MOST_BALLOTS = 100;
    private static final int LAST_SEED = 9999;
    private static final int MOST_DRAWS = 20;

    // A row in d brackets is done at most 1 + 5d times: each of the five times that a candidate
    // goes and the count goes on starts each bracket again once at most. Of the 12 statements and
    // brackets that 24 letters hold, d are the brackets and one must let candidates go, so that
    // there are at most (11 - d) * (1 + 5d) tallies: 156, with d = 5.
    private static final int MOST_TALLIES = 156;

    // Likewise 24 letters, in 11 brackets at most, are done 24 * 56 times at most.
    private static final int MOST_STEPS = 10000;

    // Those that are one letter alone; e bears a number.
    private static final String PLAIN_COMMANDS = "tbamxrlhq";
    private static final String TALLY_COMMANDS = "tba";
    private static final String TIE_COMMANDS = "lhq";

    private final Rolls rolls = new Rolls();
    private final Text text = new Text();
    private final Rule[] rules = new Rule[MOST_RULES];
    private final Vote[] house = new Vote[MOST_VOTES];
    private final Slip slip = new Slip();
    private final Box box = new Box(rolls);
    private final MachineCount machine = new MachineCount(box);
    private final HandCount hand = new HandCount(box);
    private int today;
    private int ruleCount;
    private int voteCount;

    public Ballotscript() {
        for (int place = 0; place < MOST_RULES; place++) {
            rules[place] = new Rule();
        }
        for (int place = 0; place < MOST_VOTES; place++) {
            house[place] = new Vote();
        }
    }

    // ---- rolls and days

    public int enter(int roll, int person, int from, int to)
            throws IndexOutOfBoundsException, IllegalArgumentException, IllegalStateException {
        if (!isWithin(roll, 0, ROLLS - 1) || !isWithin(person, 0, PERSONS - 1)) {
            throw new IndexOutOfBoundsException("no such roll or person");
        }
        if (!isWithin(from, 0, LAST_DAY) || !isWithin(to, from, LAST_DAY)) {
            throw new IllegalArgumentException("from or to is out of range");
        }
        if (rolls.size >= MOST_ENTRIES) {
            throw new IllegalStateException("there are 60 entries");
        }
        return rolls.add(roll, person, from, to);
    }

    public int strike(int entry) throws IndexOutOfBoundsException, IllegalStateException {
        if (!isWithin(entry, 0, rolls.size - 1)) {
            throw new IndexOutOfBoundsException("no such entry");
        }
        if (rolls.struck[entry]) {
            throw new IllegalStateException("the entry is struck");
        }
        int before = box.countAll();
        rolls.struck[entry] = true;
        return before - box.countAll();
    }

    public boolean isAllowed(int roll, int person, int day)
            throws IndexOutOfBoundsException, IllegalArgumentException {
        if (!isWithin(roll, 0, ROLLS - 1) || !isWithin(person, 0, PERSONS - 1)) {
            throw new IndexOutOfBoundsException("no such roll or person");
        }
        if (!isWithin(day, 0, LAST_DAY)) {
            throw new IllegalArgumentException("day is out of range");
        }
        return rolls.allows(roll, person, day);
    }

    public int pass(int days) throws IllegalArgumentException, IllegalStateException {
        if (!isWithin(days, 1, LONGEST_PASS)) {
            throw new IllegalArgumentException("days is out of range");
        }
        if (today + days > LAST_DAY) {
            throw new IllegalStateException("today would be behind 1000");
        }
        today += days;
        return today;
    }

    // ---- rules

    public int type(char letter) throws IllegalArgumentException, IllegalStateException {
        if (!isTypable(letter)) {
            throw new IllegalArgumentException("no such letter");
        }
        if (text.size >= MOST_LETTERS) {
            throw new IllegalStateException("the text has 24 letters");
        }
        return text.add(letter);
    }

    public int wipe() {
        int before = text.size;
        text.size = 0;
        return before;
    }

    public int fault() {
        return text.firstFault();
    }

    public int rule() throws IllegalArgumentException, IllegalStateException {
        if (text.firstFault() != NONE) {
            throw new IllegalArgumentException("the text is no rule");
        }
        if (ruleCount >= MOST_RULES) {
            throw new IllegalStateException("there are 8 rules");
        }
        rules[ruleCount].take(text);
        ruleCount++;
        return ruleCount - 1;
    }

    public int mend(int rule) throws IndexOutOfBoundsException, IllegalArgumentException {
        if (!isWithin(rule, 0, ruleCount - 1)) {
            throw new IndexOutOfBoundsException("no such rule");
        }
        if (text.firstFault() != NONE) {
            throw new IllegalArgumentException("the text is no rule");
        }
        for (int vote = 0; vote < voteCount; vote++) {
            house[vote].before = countVote(vote).elected;
        }
        rules[rule].take(text);
        int changed = 0;
        for (int vote = 0; vote < voteCount; vote++) {
            if (countVote(vote).elected != house[vote].before) {
                changed++;
            }
        }
        return changed;
    }

    public int commands(int rule) throws IndexOutOfBoundsException {
        if (!isWithin(rule, 0, ruleCount - 1)) {
            throw new IndexOutOfBoundsException("no such rule");
        }
        return rules[rule].commandCount;
    }

    // ---- votes and ballots

    public int open(int roll, int candidates, int seats, int rule)
            throws IndexOutOfBoundsException, IllegalArgumentException, IllegalStateException {
        if (!isWithin(roll, 0, ROLLS - 1) || !isWithin(rule, 0, ruleCount - 1)) {
            throw new IndexOutOfBoundsException("no such roll or rule");
        }
        if (!isWithin(candidates, FEWEST_CANDIDATES, MOST_CANDIDATES)
                || !isWithin(seats, 1, candidates - 1)) {
            throw new IllegalArgumentException("candidates or seats is out of range");
        }
        if (voteCount >= MOST_VOTES) {
            throw new IllegalStateException("there are 8 votes");
        }
        house[voteCount].begin(roll, candidates, seats, rule);
        voteCount++;
        return voteCount - 1;
    }

    public int close(int vote) throws IndexOutOfBoundsException, IllegalStateException {
        needVote(vote);
        if (house[vote].closed) {
            throw new IllegalStateException("the vote is closed");
        }
        house[vote].closed = true;
        box.gather(vote);
        return box.gatheredCount;
    }

    public int mark(int candidate) throws IndexOutOfBoundsException, IllegalStateException {
        if (!isWithin(candidate, 0, MOST_CANDIDATES - 1)) {
            throw new IndexOutOfBoundsException("no such candidate");
        }
        if (slip.has(candidate)) {
            throw new IllegalStateException("the candidate is marked");
        }
        return slip.add(candidate);
    }

    public int cast(int vote, int person) throws IndexOutOfBoundsException, IllegalStateException {
        needVote(vote);
        if (!isWithin(person, 0, PERSONS - 1)) {
            throw new IndexOutOfBoundsException("no such person");
        }
        if (house[vote].closed || slip.size == 0 || slip.highest() >= house[vote].candidates
                || box.size >= MOST_BALLOTS) {
            throw new IllegalStateException("no such ballot may be cast");
        }
        int ballot = box.add(vote, house[vote].roll, person, today, slip);
        slip.size = 0;
        return ballot;
    }

    public int why(int ballot) throws IndexOutOfBoundsException {
        needBallot(ballot);
        return box.reasonOf(ballot);
    }

    public int read(int ballot, int place) throws IndexOutOfBoundsException {
        needBallot(ballot);
        if (!isWithin(place, 0, MOST_CANDIDATES - 1)) {
            throw new IndexOutOfBoundsException("no such place");
        }
        return box.candidateAt(ballot, place);
    }

    // ---- the recount desk

    public void misread(int ballot) throws IndexOutOfBoundsException, IllegalStateException {
        needBallot(ballot);
        if (box.swapped[ballot] || box.lengths[ballot] < 2) {
            throw new IllegalStateException("the ballot is misread or has one candidate alone");
        }
        box.swapped[ballot] = true;
    }

    public int sample(int vote, int seed, int many)
            throws IndexOutOfBoundsException, IllegalArgumentException, IllegalStateException {
        needVote(vote);
        if (!isWithin(seed, 0, LAST_SEED) || !isWithin(many, 1, MOST_DRAWS)) {
            throw new IllegalArgumentException("seed or many is out of range");
        }
        box.gather(vote);
        if (box.gatheredCount <= 0) {
            throw new IllegalStateException("no ballot of the vote counts");
        }
        int number = seed;
        int found = 0;
        for (int draw = 0; draw < many; draw++) {
            number = (1103 * number + 12345) % 65536;
            if (box.putRight(box.gathered[number % box.gatheredCount])) {
                found++;
            }
        }
        house[vote].draws += many;
        house[vote].found += found;
        return found;
    }

    public int recount(int vote) throws IndexOutOfBoundsException {
        needVote(vote);
        int found = 0;
        for (int ballot = 0; ballot < box.size; ballot++) {
            if (box.voteOf[ballot] == vote && box.putRight(ballot)) {
                found++;
            }
        }
        return found;
    }

    public int doubt(int vote) throws IndexOutOfBoundsException {
        needVote(vote);
        return house[vote].draws <= 0 ? 0 : 100 * house[vote].found / house[vote].draws;
    }

    // ---- counts

    public int winners(int vote) throws IndexOutOfBoundsException {
        needVote(vote);
        return countVote(vote).elected;
    }

    public int winnersByHand(int vote) throws IndexOutOfBoundsException {
        needVote(vote);
        box.gather(vote);
        hand.begin(house[vote].candidates, house[vote].seats);
        HandCount.doRow(hand, rules[house[vote].rule], 0, 0);
        return hand.elected;
    }

    public int tallies(int vote) throws IndexOutOfBoundsException {
        needVote(vote);
        return countVote(vote).tallyCount;
    }

    public int votes(int vote, int tally, int candidate) throws IndexOutOfBoundsException {
        needVote(vote);
        if (!isWithin(candidate, 0, house[vote].candidates - 1)
                || !isWithin(tally, 0, countVote(vote).tallyCount - 1)) {
            throw new IndexOutOfBoundsException("no such tally or candidate");
        }
        return machine.stoodIn(tally, candidate) ? machine.votesIn(tally, candidate) : NONE;
    }

    public int ties(int vote) throws IndexOutOfBoundsException {
        needVote(vote);
        return countVote(vote).tieCount;
    }

    public int tied(int vote, int tie) throws IndexOutOfBoundsException {
        needVote(vote);
        if (!isWithin(tie, 0, countVote(vote).tieCount - 1)) {
            throw new IndexOutOfBoundsException("no such tie");
        }
        return machine.tieSets[tie];
    }

    public int certify(int vote) throws IndexOutOfBoundsException, IllegalStateException {
        needVote(vote);
        if (!house[vote].closed) {
            throw new IllegalStateException("the vote is open");
        }
        house[vote].certificate = countVote(vote).elected;
        return house[vote].certificate;
    }

    public int certified(int vote) throws IndexOutOfBoundsException {
        needVote(vote);
        return house[vote].certificate;
    }

    public int stale() {
        int count = 0;
        for (int vote = 0; vote < voteCount; vote++) {
            int certificate = house[vote].certificate;
            if (certificate != NONE && certificate != countVote(vote).elected) {
                count++;
            }
        }
        return count;
    }

    // ---- helpers of the face

    private static boolean isWithin(int value, int first, int last) {
        return value >= first && value <= last;
    }

    private static boolean isDigit(char letter) {
        return letter >= '0' && letter <= '9';
    }

    private static boolean isTypable(char letter) {
        return letter >= 'a' && letter <= 'z' || isDigit(letter)
                || letter == ';' || letter == '(' || letter == ')';
    }

    private void needVote(int vote) {
        if (!isWithin(vote, 0, voteCount - 1)) {
            throw new IndexOutOfBoundsException("no such vote");
        }
    }

    private void needBallot(int ballot) {
        if (!isWithin(ballot, 0, box.size - 1)) {
            throw new IndexOutOfBoundsException("no such ballot");
        }
    }

    private MachineCount countVote(int vote) {
        box.gather(vote);
        machine.begin(house[vote].candidates, house[vote].seats);
        machine.follow(rules[house[vote].rule]);
        return machine;
    }

    /** The entries of all rolls. */
    private static final class Rolls {
        final int[] rollOf = new int[MOST_ENTRIES];
        final int[] personOf = new int[MOST_ENTRIES];
        final int[] fromOf = new int[MOST_ENTRIES];
        final int[] toOf = new int[MOST_ENTRIES];
        final boolean[] struck = new boolean[MOST_ENTRIES];
        int size;

        int add(int roll, int person, int from, int to) {
            if (size < MOST_ENTRIES) {
                rollOf[size] = roll;
                personOf[size] = person;
                fromOf[size] = from;
                toOf[size] = to;
                size++;
            }
            return size - 1;
        }

        boolean allows(int roll, int person, int day) {
            for (int entry = 0; entry < size; entry++) {
                if (!struck[entry] && rollOf[entry] == roll && personOf[entry] == person
                        && isWithin(day, fromOf[entry], toOf[entry])) {
                    return true;
                }
            }
            return false;
        }
    }

    /** The text that is typed. */
    private static final class Text {
        // What may come next, while a text is read as a rule.
        private static final int FIRST = 0;
        private static final int NEXT = 1;
        private static final int SEMICOLON = 2;
        private static final int FIGURE = 3;
        private static final int FIGURE_OR_SEMICOLON = 4;
        private static final int NOTHING = 5;

        final char[] letters = new char[MOST_LETTERS];
        int size;

        int add(char letter) {
            if (size < MOST_LETTERS) {
                letters[size] = letter;
                size++;
            }
            return size;
        }

        int firstFault() {
            int state = FIRST;
            int depth = 0;
            for (int place = 0; place < size; place++) {
                char letter = letters[place];
                state = stateAfter(letter, state, depth);
                if (state == NOTHING) {
                    return place;
                }
                if (letter == '(') {
                    depth++;
                } else if (letter == ')') {
                    depth--;
                }
            }
            return state == NEXT && depth == 0 ? NONE : size;
        }

        private static int stateAfter(char letter, int state, int depth) {
            if (state == SEMICOLON) {
                return letter == ';' ? NEXT : NOTHING;
            }
            if (state == FIGURE) {
                return isDigit(letter) ? FIGURE_OR_SEMICOLON : NOTHING;
            }
            if (state == FIGURE_OR_SEMICOLON) {
                return letter == ';' ? NEXT : isDigit(letter) ? SEMICOLON : NOTHING;
            }
            if (letter == ')') {
                return state == NEXT && depth > 0 ? NEXT : NOTHING;
            }
            if (letter == '(') {
                return FIRST;
            }
            if (letter == 'e') {
                return FIGURE;
            }
            return PLAIN_COMMANDS.indexOf(letter) >= 0 ? SEMICOLON : NOTHING;
        }
    }

    /** A rule: its text, for the count by hand, and its steps, for that of the machine. */
    private static final class Rule {
        final char[] letters = new char[MOST_LETTERS];
        final char[] steps = new char[MOST_LETTERS];
        // of the command e: its number; of a closing bracket: the step of the opening one
        final int[] numbers = new int[MOST_LETTERS];
        int size;
        int stepCount;
        int commandCount;

        void take(Text text) {
            size = text.size;
            stepCount = 0;
            commandCount = 0;
            int innermost = NONE;
            for (int place = 0; place < size; place++) {
                char letter = text.letters[place];
                letters[place] = letter;
                if (letter == ';') {
                    commandCount++;
                } else if (!isDigit(letter)) {
                    innermost = addStep(letter, innermost);
                } else if (stepCount > 0) {
                    numbers[stepCount - 1] = 10 * numbers[stepCount - 1] + (letter - '0');
                }
            }
        }

        // Returns the step of the innermost bracket that is open then. An opening bracket keeps
        // that of the one round it as its number, so that no stack is needed.
        private int addStep(char letter, int innermost) {
            int step = stepCount;
            if (step >= MOST_LETTERS) {
                return innermost;
            }
            stepCount++;
            steps[step] = letter;
            numbers[step] = letter == '(' || letter == ')' ? innermost : 0;
            if (letter == '(') {
                return step;
            }
            return letter == ')' && innermost >= 0 ? numbers[innermost] : innermost;
        }
    }

    /** The candidates that are marked for the next ballot. */
    private static final class Slip {
        final int[] order = new int[MOST_CANDIDATES];
        int size;

        int add(int candidate) {
            if (size < MOST_CANDIDATES) {
                order[size] = candidate;
                size++;
            }
            return size;
        }

        boolean has(int candidate) {
            for (int place = 0; place < size; place++) {
                if (order[place] == candidate) {
                    return true;
                }
            }
            return false;
        }

        int highest() {
            int highest = NONE;
            for (int place = 0; place < size; place++) {
                highest = Math.max(highest, order[place]);
            }
            return highest;
        }
    }

    /** A vote. */
    private static final class Vote {
        int roll;
        int candidates;
        int seats;
        int rule;
        boolean closed;
        int draws;
        int found;
        int certificate = NONE;
        // its winners ahead of a mending
        int before;

        void begin(int ofRoll, int manyCandidates, int manySeats, int ofRule) {
            roll = ofRoll;
            candidates = manyCandidates;
            seats = manySeats;
            rule = ofRule;
        }
    }

    /** The ballots of all votes. */
    private static final class Box {
        final Rolls rolls;
        final int[] voteOf = new int[MOST_BALLOTS];
        final int[] rollOf = new int[MOST_BALLOTS];
        final int[] personOf = new int[MOST_BALLOTS];
        final int[] dayOf = new int[MOST_BALLOTS];
        final int[] lengths = new int[MOST_BALLOTS];
        final int[] orders = new int[MOST_BALLOTS * MOST_CANDIDATES];
        final boolean[] swapped = new boolean[MOST_BALLOTS];
        int size;
        // the ballots of one vote that count, by rising numbers
        final int[] gathered = new int[MOST_BALLOTS];
        int gatheredCount;

        Box(Rolls rolls) {
            this.rolls = rolls;
        }

        int add(int vote, int roll, int person, int day, Slip slip) {
            if (size < MOST_BALLOTS) {
                voteOf[size] = vote;
                rollOf[size] = roll;
                personOf[size] = person;
                dayOf[size] = day;
                lengths[size] = slip.size;
                for (int place = 0; place < slip.size; place++) {
                    orders[size * MOST_CANDIDATES + place] = slip.order[place];
                }
                size++;
            }
            return size - 1;
        }

        int candidateAt(int ballot, int place) {
            if (place >= lengths[ballot]) {
                return NONE;
            }
            int written = swapped[ballot] && place < 2 ? 1 - place : place;
            return orders[ballot * MOST_CANDIDATES + written];
        }

        boolean putRight(int ballot) {
            boolean wasSwapped = swapped[ballot];
            swapped[ballot] = false;
            return wasSwapped;
        }

        int reasonOf(int ballot) {
            for (int later = ballot + 1; later < size; later++) {
                if (voteOf[later] == voteOf[ballot] && personOf[later] == personOf[ballot]) {
                    return LATER;
                }
            }
            return rolls.allows(rollOf[ballot], personOf[ballot], dayOf[ballot]) ? COUNTS : BARRED;
        }

        void gather(int vote) {
            gatheredCount = 0;
            for (int ballot = 0; ballot < size; ballot++) {
                if (voteOf[ballot] == vote && reasonOf(ballot) == COUNTS) {
                    gathered[gatheredCount] = ballot;
                    gatheredCount++;
                }
            }
        }

        int countAll() {
            int count = 0;
            for (int ballot = 0; ballot < size; ballot++) {
                if (reasonOf(ballot) == COUNTS) {
                    count++;
                }
            }
            return count;
        }
    }

    /** A count of the ballots that are gathered in the box: who stands, is elected, is tied. */
    private abstract static class Count {
        final Box box;
        final int[] tieSets = new int[MOST_CANDIDATES];
        int tieCount;
        int tallyCount;
        int openSeats;
        int standing;
        int elected;
        char breaking;

        Count(Box box) {
            this.box = box;
        }

        abstract void makeTally(char kind);

        /** Votes of one that stood in the tally; 0 where there is no such tally. */
        abstract int votesIn(int tally, int candidate);

        /** Weight of a tally; 0 where there is no such tally. */
        abstract int weightOf(int tally);

        void begin(int candidates, int seats) {
            tieCount = 0;
            tallyCount = 0;
            openSeats = seats;
            standing = (1 << candidates) - 1;
            elected = 0;
            breaking = 'l';
        }

        void obey(char command, int number) {
            if (TALLY_COMMANDS.indexOf(command) >= 0) {
                makeTally(command);
            } else if (TIE_COMMANDS.indexOf(command) >= 0) {
                breaking = command;
            } else {
                letGo(command, number);
            }
        }

        // The commands m, e, r and x: one candidate after the other is elected, or one is out.
        private void letGo(char command, int number) {
            boolean best = command != 'x';
            int turns = command == 'e' || command == 'r' ? MOST_CANDIDATES : 1;
            int latest = tallyCount - 1;
            for (int turn = 0; turn < turns && openSeats > 0; turn++) {
                int those = leaders(standing, latest, best);
                if (!maySomeGo(command, number, those)) {
                    return;
                }
                keepTie(those);
                int ahead = breaking == 'q' ? latest - 1 : NONE;
                for (int tally = ahead; tally >= 0 && Integer.bitCount(those) > 1; tally--) {
                    those = leaders(those, tally, best);
                }
                remove(breaking == 'h' ? highest(those) : lowest(those), best);
            }
        }

        private boolean maySomeGo(char command, int number, int those) {
            if (command == 'x') {
                return Integer.bitCount(standing) > openSeats;
            }
            if (command == 'e' && those != 0) {
                int latest = tallyCount - 1;
                return 100 * votesIn(latest, lowest(those)) > number * weightOf(latest);
            }
            return those != 0;
        }

        private void keepTie(int those) {
            if (Integer.bitCount(those) > 1 && tieCount < MOST_CANDIDATES) {
                tieSets[tieCount] = those;
                tieCount++;
            }
        }

        private void remove(int candidate, boolean isElected) {
            standing &= ~(1 << candidate);
            if (isElected) {
                elected |= 1 << candidate;
                openSeats--;
            }
        }

        // Those of a set that have the most votes in a tally (or the fewest).
        private int leaders(int set, int tally, boolean best) {
            int those = 0;
            int bar = 0;
            for (int candidate = 0; candidate < MOST_CANDIDATES; candidate++) {
                if (!hasBit(set, candidate)) {
                    continue;
                }
                int got = votesIn(tally, candidate);
                if (those == 0 || (best ? got > bar : got < bar)) {
                    those = 1 << candidate;
                    bar = got;
                } else if (got == bar) {
                    those |= 1 << candidate;
                }
            }
            return those;
        }

        static boolean hasBit(int set, int candidate) {
            return (set >> candidate & 1) != 0;
        }

        private static int lowest(int set) {
            for (int candidate = 0; candidate < MOST_CANDIDATES; candidate++) {
                if (hasBit(set, candidate)) {
                    return candidate;
                }
            }
            return 0;
        }

        private static int highest(int set) {
            for (int candidate = MOST_CANDIDATES - 1; candidate > 0; candidate--) {
                if (hasBit(set, candidate)) {
                    return candidate;
                }
            }
            return 0;
        }
    }

    /** A count by the steps of a rule, with tallies that are kept. */
    private static final class MachineCount extends Count {
        private final int[] counted = new int[MOST_TALLIES * MOST_CANDIDATES];
        private final int[] stood = new int[MOST_TALLIES];
        private final int[] weights = new int[MOST_TALLIES];
        // who stood when the row of a bracket was begun the last time, by the bracket's step
        private final int[] stoodAtPass = new int[MOST_LETTERS];

        MachineCount(Box box) {
            super(box);
        }

        void follow(Rule rule) {
            int step = 0;
            for (int turn = 0; turn < MOST_STEPS && openSeats > 0; turn++) {
                if (step < 0 || step >= rule.stepCount) {
                    return;
                }
                char command = rule.steps[step];
                if (command == ')') {
                    step = stepAfterPass(step, rule.numbers[step]);
                    continue;
                }
                if (command == '(') {
                    stoodAtPass[step] = standing;
                } else {
                    obey(command, rule.numbers[step]);
                }
                step++;
            }
        }

        // Nobody stands again, so that who stands tells whether one was elected or out.
        private int stepAfterPass(int closing, int opening) {
            boolean again = isWithin(opening, 0, closing) && stoodAtPass[opening] != standing;
            return again ? opening : closing + 1;
        }

        void makeTally(char kind) {
            if (tallyCount >= MOST_TALLIES) {
                return;
            }
            int row = tallyCount * MOST_CANDIDATES;
            for (int candidate = 0; candidate < MOST_CANDIDATES; candidate++) {
                counted[row + candidate] = 0;
            }
            int weight = 0;
            for (int place = 0; place < box.gatheredCount; place++) {
                weight += addBallot(box.gathered[place], kind, row);
            }
            stood[tallyCount] = standing;
            weights[tallyCount] = weight;
            tallyCount++;
        }

        // Returns 1 if the ballot gave something, otherwise 0.
        private int addBallot(int ballot, char kind, int row) {
            int worth = kind == 'b' ? Integer.bitCount(standing) : 1;
            int gave = 0;
            for (int place = 0; place < box.lengths[ballot]; place++) {
                int candidate = box.candidateAt(ballot, place);
                if (candidate < 0 || !hasBit(standing, candidate)) {
                    continue;
                }
                counted[row + candidate] += worth;
                gave = 1;
                if (kind == 't') {
                    return gave;
                }
                if (kind == 'b') {
                    worth--;
                }
            }
            return gave;
        }

        boolean stoodIn(int tally, int candidate) {
            return isWithin(tally, 0, tallyCount - 1) && hasBit(stood[tally], candidate);
        }

        int votesIn(int tally, int candidate) {
            return tally < 0 ? 0 : counted[tally * MOST_CANDIDATES + candidate];
        }

        int weightOf(int tally) {
            return tally < 0 ? 0 : weights[tally];
        }
    }

    /**
     * A count by hand: the rule is read letter by letter, and of a tally only its kind and who
     * stood are kept; each of its votes is found by going through the ballots anew.
     */
    private static final class HandCount extends Count {
        private final char[] kinds = new char[MOST_TALLIES];
        private final int[] stood = new int[MOST_TALLIES];

        HandCount(Box box) {
            super(box);
        }

        // Does the row that begins at a place; returns the place of the bracket that ends it, or
        // that behind the text.
        private static int doRow(HandCount hand, Rule rule, int from, int depth) {
            if (depth > MOST_LETTERS) {
                return rule.size;
            }
            int place = from;
            for (int turn = 0; turn < MOST_LETTERS && hand.openSeats > 0; turn++) {
                if (place >= rule.size || rule.letters[place] == ')') {
                    return place;
                }
                char letter = rule.letters[place];
                place++;
                if (letter != '(') {
                    int number = 0;
                    for (; place < rule.size && isDigit(rule.letters[place]); place++) {
                        number = 10 * number + (rule.letters[place] - '0');
                    }
                    place++;
                    hand.obey(letter, number);
                    continue;
                }
                int start = place;
                int before = NONE;
                for (int pass = 0; pass <= MOST_CANDIDATES && before != hand.standing; pass++) {
                    before = hand.standing;
                    place = doRow(hand, rule, start, depth + 1);
                }
                place++;
            }
            return place;
        }

        void makeTally(char kind) {
            if (tallyCount < MOST_TALLIES) {
                kinds[tallyCount] = kind;
                stood[tallyCount] = standing;
                tallyCount++;
            }
        }

        int votesIn(int tally, int candidate) {
            if (tally < 0) {
                return 0;
            }
            int sum = 0;
            for (int place = 0; place < box.gatheredCount; place++) {
                sum += givenBy(box.gathered[place], tally, candidate);
            }
            return sum;
        }

        private int givenBy(int ballot, int tally, int candidate) {
            int ahead = 0;
            for (int place = 0; place < box.lengths[ballot]; place++) {
                int other = box.candidateAt(ballot, place);
                if (other != candidate) {
                    ahead += hasBit(stood[tally], other) ? 1 : 0;
                } else if (kinds[tally] == 'b') {
                    return Integer.bitCount(stood[tally]) - ahead;
                } else {
                    return kinds[tally] == 'a' || ahead == 0 ? 1 : 0;
                }
            }
            return 0;
        }

        int weightOf(int tally) {
            if (tally < 0) {
                return 0;
            }
            int weight = 0;
            for (int place = 0; place < box.gatheredCount; place++) {
                if (gaveSomething(box.gathered[place], tally)) {
                    weight++;
                }
            }
            return weight;
        }

        private boolean gaveSomething(int ballot, int tally) {
            for (int place = 0; place < box.lengths[ballot]; place++) {
                if (hasBit(stood[tally], box.candidateAt(ballot, place))) {
                    return true;
                }
            }
            return false;
        }
    }
}
