import java.util.function.IntFunction;
import java.util.function.ToLongBiFunction;
import java.util.function.ToLongFunction;

/**
 * Each Throws sentence of the document: the exception that its clause names first where several
 * apply, just outside of each bound, in houses that are empty, small and full; and that nothing
 * changed: all that can be asked afterwards is answered as by the same house without that call.
 */
public final class RefusalTest extends Bench {
    /** Tells a new house what the call is tried on. */
    private interface Scene {
        void tell(House x);

        default Scene and(Scene more) {
            return x -> {
                tell(x);
                more.tell(x);
            };
        }
    }

    /** A call that is tried on a house. */
    private interface Deed {
        long on(House x);
    }

    private static final Scene EMPTY = x -> { };
    private static final Scene SMALL = RefusalTest::small;
    private static final Scene FULL = x -> full(x, "t;t;t;t;t;t;t;t;t;t;t;m;");
    private static final Scene FULL_WITHOUT_RULE = x -> full(x, "t;t;t;t;t;t;t;t;t;t;t;m)");

    public static void main(String[] args) {
        RefusalTest test = new RefusalTest();
        test.rolls();
        test.days();
        test.texts();
        test.rules();
        test.open();
        test.close();
        test.mark();
        test.cast();
        test.ballots();
        test.sample();
        test.votes();
        test.talliesAndTies();
        test.certify();
        test.questions();
        CHECK.end("RefusalTest");
    }

    // ---- scenes

    // Two rules, four votes (2 is closed and certified, 3 has no ballot that counts), five ballots
    // (0 is misread, 1 has a later one and one candidate alone, 3 and 4 are barred), day 3, a text
    // that is no rule, two marks.
    private static void small(House x) {
        x.enter(0, 0, 0, 9);
        x.enter(0, 1, 0, 9);
        x.enter(1, 1, 5, 9);
        x.enter(0, 2, 0, 1000);
        x.ruleOf("t;m;");
        x.ruleOf("q;b;t;x;t;r;");
        x.open(0, 3, 1, 0);
        x.open(1, 4, 2, 1);
        x.open(0, 2, 1, 1);
        x.open(0, 3, 1, 0);
        x.ballot(0, 0, 0, 1);
        x.ballot(0, 2, 2);
        x.ballot(0, 2, 1, 2, 0);
        x.ballot(1, 1, 3, 2, 1, 0);
        x.ballot(3, 1, 0, 1);
        x.strike(1);
        x.misread(0);
        x.sample(0, 1, 1);
        x.misread(0);
        x.close(2);
        x.certify(2);
        x.pass(3);
        x.mark(2);
        x.mark(0);
        x.text("t;m");
    }

    // 60 entries (59 is struck), 8 rules, 8 votes (0 is closed), 100 ballots, 24 letters, day 1000,
    // six marks.
    private static void full(House x, String text) {
        for (int entry = 0; entry < 60; entry++) {
            x.enter(entry / 20, entry % 20, 0, 999);
        }
        x.strike(59);
        x.text("t;m;");
        for (int rule = 0; rule < 8; rule++) {
            x.rule();
        }
        for (int vote = 0; vote < 8; vote++) {
            x.open(vote % 3, vote == 2 ? 3 : 6, 1 + vote % 2, vote);
        }
        for (int ballot = 0; ballot < 100; ballot++) {
            if (ballot % 25 == 24) {
                x.mark((ballot + 1) % 3);
            }
            x.ballot(ballot / 20, ballot % 20, ballot % 3);
        }
        x.misread(24);
        x.misread(99);
        x.close(0);
        x.certify(0);
        x.days(1000);
        x.text(text);
        for (int candidate = 5; candidate >= 0; candidate--) {
            x.mark(candidate);
        }
    }

    // ---- what can be asked afterwards, in parts that leave a house within its 512 calls

    private static void ask(StringBuilder all, Check.Call call) {
        all.append(Check.outcome(call)).append(' ');
    }

    private static void askRolls(House x, StringBuilder all) {
        for (int place = 0; place < 60; place++) {
            int one = place;
            ask(all, () -> x.isAllowed(one / 20, one % 20, 5));
        }
        for (int day : new int[] {0, 4, 9, 10, 999, 1000}) {
            for (int person = 0; person < 3; person++) {
                int one = person;
                ask(all, () -> x.isAllowed(one % 2, one, day));
            }
        }
        for (int entry : new int[] {0, 1, 2, 3, 4, 59, 60}) {
            ask(all, () -> x.strike(entry));
        }
        ask(all, () -> x.enter(2, 19, 1000, 1000));
    }

    private static void askRules(House x, StringBuilder all) {
        ask(all, x::fault);
        ask(all, x::rule);
        for (int rule = 0; rule < 9; rule++) {
            int one = rule;
            ask(all, () -> x.commands(one));
        }
        ask(all, () -> x.mend(0));
        ask(all, () -> x.commands(0));
        ask(all, () -> x.open(0, 2, 1, 0));
        ask(all, () -> x.type(';'));
        ask(all, () -> x.mend(1));
        ask(all, () -> x.commands(1));
        ask(all, x::wipe);
    }

    private static void askCounts(House x, StringBuilder all) {
        for (int vote = 0; vote < 8; vote++) {
            int v = vote;
            ask(all, () -> x.winners(v));
            ask(all, () -> x.winnersByHand(v));
            ask(all, () -> x.tallies(v));
            ask(all, () -> x.votes(v, 0, 0));
            ask(all, () -> x.votes(v, 0, 1));
            ask(all, () -> x.ties(v));
            ask(all, () -> x.tied(v, 0));
            ask(all, () -> x.doubt(v));
            ask(all, () -> x.certified(v));
        }
        ask(all, x::stale);
        for (int vote = 0; vote < 8; vote++) {
            int v = vote;
            ask(all, () -> x.close(v));
            ask(all, () -> x.certify(v));
        }
    }

    private static void askWhy(House x, StringBuilder all) {
        for (int ballot = 0; ballot <= 100; ballot++) {
            int one = ballot;
            ask(all, () -> x.why(one));
        }
    }

    private static void askReadings(House x, StringBuilder all) {
        for (int ballot = 0; ballot <= 100; ballot++) {
            int one = ballot;
            ask(all, () -> x.read(one, 0));
        }
        for (int place = 1; place < 6; place++) {
            int one = place;
            ask(all, () -> x.read(2, one));
            ask(all, () -> x.read(3, one));
        }
    }

    private static void askDesk(House x, StringBuilder all) {
        for (int vote = 0; vote < 8; vote++) {
            int v = vote;
            ask(all, () -> x.sample(v, 3, 20));
            ask(all, () -> x.recount(v));
            ask(all, () -> x.doubt(v));
        }
        ask(all, () -> x.misread(0));
        ask(all, () -> x.misread(24));
    }

    // Those that are marked and the day show in the ballots that are cast then.
    private static void askMarksAndDay(House x, StringBuilder all) {
        ask(all, () -> x.cast(0, 2));
        ask(all, () -> x.cast(1, 2));
        for (int place = 0; place < 6; place++) {
            int one = place;
            ask(all, () -> x.read(5, one));
        }
        for (int candidate = 0; candidate < 6; candidate++) {
            int one = candidate;
            ask(all, () -> x.mark(one));
        }
        ask(all, () -> x.pass(1));
        ask(all, () -> x.pass(100));
    }

    private static String asked(Scene scene, Deed deed) {
        StringBuilder all = new StringBuilder();
        for (int part = 0; part < 7; part++) {
            House x = new House();
            scene.tell(x);
            Check.outcome(() -> deed.on(x));
            switch (part) {
                case 0 -> askRolls(x, all);
                case 1 -> askRules(x, all);
                case 2 -> askCounts(x, all);
                case 3 -> askWhy(x, all);
                case 4 -> askReadings(x, all);
                case 5 -> askDesk(x, all);
                default -> askMarksAndDay(x, all);
            }
            all.append('\n');
        }
        return all.toString();
    }

    // ---- what is due

    private void refused(Scene scene, String call, long want, Deed deed) {
        House x = new House();
        scene.tell(x);
        CHECK.due(about + ": " + call, want, () -> deed.on(x));
        unchanged(scene, call, deed);
    }

    private void unchanged(Scene scene, String call, Deed deed) {
        String before = asked(scene, nothing -> 0);
        CHECK.same(about + ": " + call + " changes nothing", 1, asked(scene, deed).equals(before) ? 1 : 0);
    }

    // Each of the places that are just outside, and far outside.
    private void outside(Scene scene, String call, long want, int last, IntFunction<Deed> deed) {
        for (int place : new int[] {-1, last + 1, LOW, HIGH}) {
            refused(scene, call + " " + place, want, deed.apply(place));
        }
    }

    private void noVote(String call, ToLongBiFunction<House, Integer> deed) {
        refused(EMPTY, call + " of no vote", Check.INDEX, x -> deed.applyAsLong(x, 0));
        outside(SMALL, call + " of vote", Check.INDEX, 3, vote -> x -> deed.applyAsLong(x, vote));
        outside(FULL, call + " of vote", Check.INDEX, 7, vote -> x -> deed.applyAsLong(x, vote));
    }

    private void noBallot(String call, ToLongBiFunction<House, Integer> deed) {
        refused(EMPTY, call + " of no ballot", Check.INDEX, x -> deed.applyAsLong(x, 0));
        outside(SMALL, call + " of ballot", Check.INDEX, 4, ballot -> x -> deed.applyAsLong(x, ballot));
        outside(FULL, call + " of ballot", Check.INDEX, 99, ballot -> x -> deed.applyAsLong(x, ballot));
    }

    // ---- rolls and days

    private void rolls() {
        about = "2, enter";
        outside(SMALL, "roll", Check.INDEX, 2, roll -> x -> x.enter(roll, 0, 0, 9));
        outside(SMALL, "person", Check.INDEX, 19, person -> x -> x.enter(0, person, 0, 9));
        outside(SMALL, "from", Check.ARGUMENT, 1000, from -> x -> x.enter(2, 0, from, 1000));
        outside(SMALL, "to", Check.ARGUMENT, 1000, to -> x -> x.enter(2, 0, 0, to));
        refused(SMALL, "to is ahead of from", Check.ARGUMENT, x -> x.enter(2, 0, 5, 4));
        refused(SMALL, "to is ahead of from, both last", Check.ARGUMENT, x -> x.enter(2, 0, 1000, 999));
        refused(SMALL, "from and to behind the last day", Check.ARGUMENT, x -> x.enter(2, 0, 1001, 1001));
        refused(SMALL, "from and to ahead of the first day", Check.ARGUMENT, x -> x.enter(2, 0, -1, -1));
        refused(SMALL, "roll ahead of from", Check.INDEX, x -> x.enter(3, 0, -1, 9));
        refused(SMALL, "person ahead of to", Check.INDEX, x -> x.enter(0, 20, 5, 4));
        refused(FULL, "60 entries", Check.STATE, x -> x.enter(0, 0, 0, 9));
        refused(FULL, "from ahead of 60 entries", Check.ARGUMENT, x -> x.enter(0, 0, 1001, 1001));
        refused(FULL, "to ahead of 60 entries", Check.ARGUMENT, x -> x.enter(0, 0, 9, 8));
        refused(FULL, "roll ahead of 60 entries", Check.INDEX, x -> x.enter(-1, 0, 0, 9));
        refused(FULL, "person ahead of all", Check.INDEX, x -> x.enter(0, -1, 9, 8));

        about = "3, strike";
        refused(EMPTY, "no entry", Check.INDEX, x -> x.strike(0));
        outside(SMALL, "entry", Check.INDEX, 3, entry -> x -> x.strike(entry));
        outside(FULL, "entry", Check.INDEX, 59, entry -> x -> x.strike(entry));
        refused(SMALL, "struck", Check.STATE, x -> x.strike(1));
        refused(FULL, "struck, the last one", Check.STATE, x -> x.strike(59));

        about = "4, isAllowed";
        outside(SMALL, "roll", Check.INDEX, 2, roll -> x -> x.isAllowed(roll, 0, 5));
        outside(SMALL, "person", Check.INDEX, 19, person -> x -> x.isAllowed(0, person, 5));
        outside(SMALL, "day", Check.ARGUMENT, 1000, day -> x -> x.isAllowed(0, 2, day));
        refused(SMALL, "roll ahead of day", Check.INDEX, x -> x.isAllowed(3, 0, 1001));
        refused(SMALL, "person ahead of day", Check.INDEX, x -> x.isAllowed(0, 20, -1));
    }

    private void days() {
        about = "5, pass";
        for (int days : new int[] {0, -1, 101, LOW, HIGH}) {
            refused(SMALL, "days " + days, Check.ARGUMENT, x -> x.pass(days));
            refused(FULL, "days ahead of the last day: " + days, Check.ARGUMENT, x -> x.pass(days));
        }
        refused(FULL, "today is the last day", Check.STATE, x -> x.pass(1));
        refused(FULL, "a hundred on the last day", Check.STATE, x -> x.pass(100));
        refused(SMALL.and(x -> x.days(898)), "day 1001", Check.STATE, x -> x.pass(100));
    }

    // ---- rules

    private void texts() {
        about = "6, type";
        // those next to the letters, figures, brackets and the semicolon, and far ones
        int[] none = {'a' - 1, 'z' + 1, '0' - 1, '9' + 1, '(' - 1, ')' + 1, ';' + 1, 'A', 'Z', ' ', '[', ']',
            0, 127, 128, 255, 'a' + 256, ';' + 256, 65535};
        for (int letter : none) {
            refused(SMALL, "letter " + letter, Check.ARGUMENT, x -> x.type((char) letter));
        }
        refused(EMPTY, "no letter", Check.ARGUMENT, x -> x.type('{'));
        refused(FULL, "no letter, ahead of 24 letters", Check.ARGUMENT, x -> x.type('{'));
        for (char letter : "az09;()".toCharArray()) {
            refused(FULL, "24 letters and " + letter, Check.STATE, x -> x.type(letter));
            refused(FULL_WITHOUT_RULE, "24 letters, no rule, and " + letter, Check.STATE, x -> x.type(letter));
        }
    }

    private void rules() {
        about = "9, rule";
        refused(EMPTY, "no text", Check.ARGUMENT, House::rule);
        refused(SMALL, "no rule", Check.ARGUMENT, House::rule);
        refused(FULL, "8 rules", Check.STATE, House::rule);
        refused(FULL_WITHOUT_RULE, "no rule, ahead of 8 rules", Check.ARGUMENT, House::rule);
        refused(FULL.and(House::wipe), "no text, ahead of 8 rules", Check.ARGUMENT, House::rule);

        about = "10, mend";
        refused(EMPTY, "no rule is there, no text", Check.INDEX, x -> x.mend(0));
        outside(SMALL, "rule, no text", Check.INDEX, 1, rule -> x -> x.mend(rule));
        outside(FULL, "rule", Check.INDEX, 7, rule -> x -> x.mend(rule));
        refused(SMALL, "too short", Check.ARGUMENT, x -> x.mend(1));
        refused(SMALL.and(House::wipe), "empty", Check.ARGUMENT, x -> x.mend(0));
        refused(FULL_WITHOUT_RULE, "a wrong letter", Check.ARGUMENT, x -> x.mend(7));

        about = "11, commands";
        refused(EMPTY, "no rule", Check.INDEX, x -> x.commands(0));
        outside(SMALL, "rule", Check.INDEX, 1, rule -> x -> x.commands(rule));
        outside(FULL, "rule", Check.INDEX, 7, rule -> x -> x.commands(rule));
    }

    // ---- votes and ballots

    private void open() {
        about = "12, open";
        refused(EMPTY, "no rule", Check.INDEX, x -> x.open(0, 2, 1, 0));
        outside(SMALL, "roll", Check.INDEX, 2, roll -> x -> x.open(roll, 3, 1, 0));
        outside(SMALL, "rule", Check.INDEX, 1, rule -> x -> x.open(0, 3, 1, rule));
        outside(SMALL, "candidates", Check.ARGUMENT, 6, candidates -> x -> x.open(0, candidates, 1, 0));
        refused(SMALL, "no candidate", Check.ARGUMENT, x -> x.open(0, 0, 1, 0));
        refused(SMALL, "one candidate", Check.ARGUMENT, x -> x.open(0, 1, 1, 0));
        refused(SMALL, "one candidate, no seat", Check.ARGUMENT, x -> x.open(0, 1, 0, 0));
        for (int candidates = 2; candidates <= 6; candidates++) {
            int many = candidates;
            outside(SMALL, "of " + many + " candidates, seats", Check.ARGUMENT, many - 1,
                    seats -> x -> x.open(0, many, seats, 0));
            refused(SMALL, "no seat", Check.ARGUMENT, x -> x.open(0, many, 0, 0));
        }
        refused(SMALL, "roll ahead of candidates", Check.INDEX, x -> x.open(3, 7, 1, 0));
        refused(SMALL, "rule ahead of seats", Check.INDEX, x -> x.open(0, 3, 3, 2));
        refused(FULL, "8 votes", Check.STATE, x -> x.open(0, 3, 1, 0));
        refused(FULL, "candidates ahead of 8 votes", Check.ARGUMENT, x -> x.open(0, 1, 1, 0));
        refused(FULL, "seats ahead of 8 votes", Check.ARGUMENT, x -> x.open(0, 3, 3, 0));
        refused(FULL, "roll ahead of 8 votes", Check.INDEX, x -> x.open(-1, 3, 1, 0));
        refused(FULL, "rule ahead of all", Check.INDEX, x -> x.open(0, 3, 3, 8));
    }

    private void close() {
        about = "13, close";
        noVote("close", House::close);
        refused(SMALL, "closed", Check.STATE, x -> x.close(2));
        refused(FULL, "closed", Check.STATE, x -> x.close(0));
    }

    private void mark() {
        about = "14, mark";
        outside(SMALL, "candidate", Check.INDEX, 5, candidate -> x -> x.mark(candidate));
        outside(FULL, "candidate", Check.INDEX, 5, candidate -> x -> x.mark(candidate));
        refused(SMALL, "the first that is marked", Check.STATE, x -> x.mark(2));
        refused(SMALL, "the last that is marked", Check.STATE, x -> x.mark(0));
        for (int candidate = 0; candidate < 6; candidate++) {
            int one = candidate;
            refused(FULL, "all six are marked: " + one, Check.STATE, x -> x.mark(one));
        }
    }

    private void cast() {
        about = "15, cast";
        Scene unmarked = SMALL.and(x -> x.cast(0, 7));
        noVote("cast", (x, vote) -> x.cast(vote, 0));
        outside(SMALL, "person", Check.INDEX, 19, person -> x -> x.cast(0, person));
        refused(SMALL.and(x -> x.close(0)), "closed", Check.STATE, x -> x.cast(0, 0));
        refused(unmarked, "none is marked", Check.STATE, x -> x.cast(0, 0));
        refused(unmarked.and(x -> x.mark(3)), "one that is no candidate", Check.STATE, x -> x.cast(0, 0));
        refused(SMALL.and(x -> x.mark(3)), "the last is no candidate", Check.STATE, x -> x.cast(0, 0));
        refused(unmarked.and(x -> x.mark(3)).and(x -> x.mark(0)), "the first is no candidate",
                Check.STATE, x -> x.cast(0, 0));
        refused(FULL, "100 ballots", Check.STATE, x -> x.cast(1, 0));
        refused(SMALL, "vote ahead of person", Check.INDEX, x -> x.cast(4, 20));
        refused(SMALL.and(x -> x.close(0)), "person ahead of closed", Check.INDEX, x -> x.cast(0, 20));
        refused(unmarked, "person ahead of none marked", Check.INDEX, x -> x.cast(0, 20));
        refused(unmarked, "vote ahead of none marked", Check.INDEX, x -> x.cast(4, 0));
        refused(SMALL, "person ahead of no candidate", Check.INDEX, x -> x.cast(2, -1));
        refused(FULL, "person ahead of 100 ballots", Check.INDEX, x -> x.cast(1, 20));
        refused(FULL, "vote ahead of 100 ballots", Check.INDEX, x -> x.cast(8, 0));
        refused(FULL, "closed, no candidate, and 100 ballots", Check.STATE, x -> x.cast(0, 0));
    }

    private void ballots() {
        about = "16, why";
        noBallot("why", House::why);
        about = "17, read";
        noBallot("read", (x, ballot) -> x.read(ballot, 0));
        outside(SMALL, "place", Check.INDEX, 5, place -> x -> x.read(3, place));
        outside(SMALL, "place of one alone", Check.INDEX, 5, place -> x -> x.read(1, place));
        refused(SMALL, "no ballot, no place", Check.INDEX, x -> x.read(5, 6));
        about = "18, misread";
        noBallot("misread", House::misread);
        refused(SMALL, "misread", Check.STATE, x -> x.misread(0));
        refused(SMALL, "one candidate alone", Check.STATE, x -> x.misread(1));
        refused(FULL, "misread, the last ballot", Check.STATE, x -> x.misread(99));
        refused(FULL, "one candidate alone", Check.STATE, x -> x.misread(98));
    }

    // ---- the recount desk

    private void sample() {
        about = "19, sample";
        noVote("sample", (x, vote) -> x.sample(vote, 0, 1));
        outside(SMALL, "seed", Check.ARGUMENT, 9999, seed -> x -> x.sample(0, seed, 20));
        outside(SMALL, "many", Check.ARGUMENT, 20, many -> x -> x.sample(0, 0, many));
        refused(SMALL, "no draw", Check.ARGUMENT, x -> x.sample(0, 0, 0));
        refused(SMALL, "no ballot", Check.STATE, x -> x.sample(2, 0, 1));
        refused(SMALL, "none that counts", Check.STATE, x -> x.sample(3, 9999, 20));
        refused(SMALL, "vote ahead of seed", Check.INDEX, x -> x.sample(4, -1, 1));
        refused(SMALL, "vote ahead of many", Check.INDEX, x -> x.sample(-1, 0, 21));
        refused(SMALL, "seed ahead of none that counts", Check.ARGUMENT, x -> x.sample(3, 10000, 1));
        refused(SMALL, "many ahead of none that counts", Check.ARGUMENT, x -> x.sample(2, 0, 0));
        refused(SMALL, "vote ahead of all", Check.INDEX, x -> x.sample(LOW, LOW, LOW));
    }

    // ---- counts

    private void votes() {
        about = "20, recount";
        noVote("recount", House::recount);
        about = "21, doubt";
        noVote("doubt", House::doubt);
        about = "22, winners";
        noVote("winners", House::winners);
        about = "23, winnersByHand";
        noVote("winnersByHand", House::winnersByHand);
        about = "24, tallies";
        noVote("tallies", House::tallies);
        about = "26, ties";
        noVote("ties", House::ties);
        about = "29, certified";
        noVote("certified", House::certified);
    }

    private void talliesAndTies() {
        about = "25, votes";
        noVote("votes", (x, vote) -> x.votes(vote, 0, 0));
        outside(SMALL, "of one tally", Check.INDEX, 0, tally -> x -> x.votes(0, tally, 0));
        outside(SMALL, "of three tallies", Check.INDEX, 2, tally -> x -> x.votes(1, tally, 0));
        outside(SMALL, "of two candidates", Check.INDEX, 1, candidate -> x -> x.votes(2, 0, candidate));
        outside(SMALL, "of three candidates", Check.INDEX, 2, candidate -> x -> x.votes(0, 0, candidate));
        outside(SMALL, "of four candidates", Check.INDEX, 3, candidate -> x -> x.votes(1, 0, candidate));
        outside(FULL, "of six candidates", Check.INDEX, 5, candidate -> x -> x.votes(1, 0, candidate));
        Scene without = SMALL.and(x -> x.mendTo(0, "r;"));
        refused(without, "of no tally", Check.INDEX, x -> x.votes(0, 0, 0));
        about = "27, tied";
        noVote("tied", (x, vote) -> x.tied(vote, 0));
        // vote 1, without ballots that count: the worst of four, the best of three, the best of two
        outside(SMALL, "of three ties", Check.INDEX, 2, tie -> x -> x.tied(1, tie));
        Scene untied = SMALL.and(x -> x.mendTo(0, "t;"));
        refused(untied, "of no tie", Check.INDEX, x -> x.tied(0, 0));
    }

    private void certify() {
        about = "28, certify";
        noVote("certify", House::certify);
        refused(SMALL, "open", Check.STATE, x -> x.certify(0));
        refused(FULL, "open", Check.STATE, x -> x.certify(7));
    }

    /** What is asked, too, changes nothing. */
    private void questions() {
        about = "Terms";
        for (Scene scene : new Scene[] {EMPTY, SMALL, FULL}) {
            question(scene, "isAllowed", x -> x.isAllowed(0, 2, 5));
            question(scene, "fault", House::fault);
            question(scene, "commands", x -> x.commands(0));
            question(scene, "why", x -> x.why(0));
            question(scene, "read", x -> x.read(0, 0));
            question(scene, "doubt", x -> x.doubt(0));
            question(scene, "winners", x -> x.winners(0));
            question(scene, "winnersByHand", x -> x.winnersByHand(0));
            question(scene, "tallies", x -> x.tallies(0));
            question(scene, "votes", x -> x.votes(0, 0, 0));
            question(scene, "ties", x -> x.ties(0));
            question(scene, "tied", x -> x.tied(0, 0));
            question(scene, "certified", x -> x.certified(0));
            question(scene, "stale", House::stale);
        }
    }

    private void question(Scene scene, String call, ToLongFunction<House> deed) {
        unchanged(scene, call, deed::applyAsLong);
    }
}
