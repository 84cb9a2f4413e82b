import java.io.IOException;
import java.io.UncheckedIOException;
import java.nio.file.Files;
import java.nio.file.Path;

/** A house under test, and the answers that are due. */
abstract class Bench {
    static final int LOW = Integer.MIN_VALUE;
    static final int HIGH = Integer.MAX_VALUE;
    static final int NONE = Ballotscript.NONE;
    static final Check CHECK = new Check();
    private static final String DOCUMENT = document();

    House x = new House();
    // the promise or the sentence that is held to
    String about = "";

    private static String document() {
        try {
            return Files.readString(Path.of("../shared/DOC.md"));
        } catch (IOException e) {
            throw new UncheckedIOException(e);
        }
    }

    /** The next answers, of a new house, hold to this sentence of the document. */
    void says(String sentence) {
        about = sentence;
        CHECK.same("in the document: " + sentence, 1, DOCUMENT.contains(sentence) ? 1 : 0);
        x = new House();
    }

    void due(String what, long want, Check.Call call) {
        CHECK.due(about + ": " + what, want, call);
    }

    /** The house of House.of, with ballots told by the figures of their candidates. */
    void house(String rule, int candidates, int seats, String... orders) {
        x = House.of(rule, candidates, seats);
        x.ballots(0, orders);
    }

    // ---- what is due of vote 0

    void bothWinners(String what, int want) {
        due(what, want, () -> x.winners(0));
        due(what + ", by hand", want, () -> x.winnersByHand(0));
    }

    void tallyIs(int tally, int... votes) {
        for (int candidate = 0; candidate < votes.length; candidate++) {
            int one = candidate;
            due("tally " + tally + ", candidate " + one, votes[one], () -> x.votes(0, tally, one));
        }
    }

    void talliesAre(int many) {
        due("tallies", many, () -> x.tallies(0));
        due("no tally behind them", Check.INDEX, () -> x.votes(0, many, 0));
    }

    void tiesAre(int... sets) {
        due("ties", sets.length, () -> x.ties(0));
        for (int tie = 0; tie < sets.length; tie++) {
            int one = tie;
            due("tie " + one, sets[one], () -> x.tied(0, one));
        }
        due("no tie behind them", Check.INDEX, () -> x.tied(0, sets.length));
    }
}
