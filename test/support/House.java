/** A Ballotscript that is asked no more than the document promises, with short words for tests. */
final class House {
    private static final int MOST_CALLS = 512;

    private final Ballotscript house = new Ballotscript();
    private int calls;

    /** A house whose persons are all allowed on roll 0, with one rule and one vote that has it. */
    static House of(String rule, int candidates, int seats) {
        House x = new House();
        for (int person = 0; person < 20; person++) {
            x.enter(0, person, 0, 1000);
        }
        x.ruleOf(rule);
        x.open(0, candidates, seats, 0);
        return x;
    }

    private Ballotscript asked() {
        calls++;
        if (calls > MOST_CALLS) {
            throw new AssertionError("a test asks more than 512 calls of one house");
        }
        return house;
    }

    // ---- short words

    void text(String text) {
        wipe();
        for (char letter : text.toCharArray()) {
            type(letter);
        }
    }

    int ruleOf(String text) {
        text(text);
        return rule();
    }

    int mendTo(int rule, String text) {
        text(text);
        return mend(rule);
    }

    int ballot(int vote, int person, int... order) {
        for (int candidate : order) {
            mark(candidate);
        }
        return cast(vote, person);
    }

    /** Ballots of the persons 0, 1, .. for a vote, each told by the figures of its candidates. */
    void ballots(int vote, String... orders) {
        for (int person = 0; person < orders.length; person++) {
            for (char figure : orders[person].toCharArray()) {
                mark(figure - '0');
            }
            cast(vote, person);
        }
    }

    void days(int days) {
        for (int left = days; left > 0; left -= 100) {
            pass(Math.min(left, 100));
        }
    }

    // ---- the face

    int enter(int roll, int person, int from, int to) {
        return asked().enter(roll, person, from, to);
    }

    int strike(int entry) {
        return asked().strike(entry);
    }

    int isAllowed(int roll, int person, int day) {
        return asked().isAllowed(roll, person, day) ? 1 : 0;
    }

    int pass(int days) {
        return asked().pass(days);
    }

    int type(char letter) {
        return asked().type(letter);
    }

    int wipe() {
        return asked().wipe();
    }

    int fault() {
        return asked().fault();
    }

    int rule() {
        return asked().rule();
    }

    int mend(int rule) {
        return asked().mend(rule);
    }

    int commands(int rule) {
        return asked().commands(rule);
    }

    int open(int roll, int candidates, int seats, int rule) {
        return asked().open(roll, candidates, seats, rule);
    }

    int close(int vote) {
        return asked().close(vote);
    }

    int mark(int candidate) {
        return asked().mark(candidate);
    }

    int cast(int vote, int person) {
        return asked().cast(vote, person);
    }

    int why(int ballot) {
        return asked().why(ballot);
    }

    int read(int ballot, int place) {
        return asked().read(ballot, place);
    }

    /** Answers 0, so that it can stand where an answer is due. */
    int misread(int ballot) {
        asked().misread(ballot);
        return 0;
    }

    int sample(int vote, int seed, int many) {
        return asked().sample(vote, seed, many);
    }

    int recount(int vote) {
        return asked().recount(vote);
    }

    int doubt(int vote) {
        return asked().doubt(vote);
    }

    int winners(int vote) {
        return asked().winners(vote);
    }

    int winnersByHand(int vote) {
        return asked().winnersByHand(vote);
    }

    int tallies(int vote) {
        return asked().tallies(vote);
    }

    int votes(int vote, int tally, int candidate) {
        return asked().votes(vote, tally, candidate);
    }

    int ties(int vote) {
        return asked().ties(vote);
    }

    int tied(int vote, int tie) {
        return asked().tied(vote, tie);
    }

    int certify(int vote) {
        return asked().certify(vote);
    }

    int certified(int vote) {
        return asked().certified(vote);
    }

    int stale() {
        return asked().stale();
    }
}
