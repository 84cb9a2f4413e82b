import java.util.ArrayList;
import java.util.LinkedHashMap;
import java.util.List;
import java.util.Map;
import java.util.TreeSet;

/**
 * The document, told a second time in another way: with lists and maps, a grammar by rewriting,
 * and a count that recurses. Answers as Check.outcome does.
 */
final class Model {
    private record Entry(int roll, int person, int from, int to) { }

    private static final class Ballot {
        int vote;
        int person;
        int day;
        List<Integer> written;
        boolean misread;

        List<Integer> asRead() {
            List<Integer> order = new ArrayList<>(written);
            if (misread) {
                order.set(0, written.get(1));
                order.set(1, written.get(0));
            }
            return order;
        }
    }

    private static final class Vote {
        int roll;
        int candidates;
        int seats;
        int rule;
        boolean closed;
        List<Boolean> draws = new ArrayList<>();
        int certified = -1;
    }

    final class Tally {
        final Map<Integer, Integer> votes = new LinkedHashMap<>();
        int weight;
    }

    /** One count, from the beginning to the end. */
    final class Count {
        final TreeSet<Integer> stand = new TreeSet<>();
        final TreeSet<Integer> elected = new TreeSet<>();
        final List<Tally> tallies = new ArrayList<>();
        final List<Integer> ties = new ArrayList<>();
        private final List<List<Integer>> ballots = new ArrayList<>();
        private final int seats;
        private final String rule;
        private char how = 'l';

        Count(int vote) {
            Vote v = votes.get(vote);
            seats = v.seats;
            rule = rules.get(v.rule);
            for (int c = 0; c < v.candidates; c++) {
                stand.add(c);
            }
            for (int b : counting(vote)) {
                ballots.add(Model.this.ballots.get(b).asRead());
            }
            row(rule);
        }

        private boolean over() {
            return elected.size() == seats;
        }

        private void row(String row) {
            int i = 0;
            while (i < row.length() && !over()) {
                int end = i;
                if (row.charAt(i) == '(') {
                    int depth = 0;
                    do {
                        depth += row.charAt(end) == '(' ? 1 : row.charAt(end) == ')' ? -1 : 0;
                        end++;
                    } while (depth > 0);
                    int before;
                    do {
                        before = stand.size();
                        row(row.substring(i + 1, end - 1));
                    } while (!over() && stand.size() < before);
                } else {
                    end = row.indexOf(';', i) + 1;
                    command(row.charAt(i), row.substring(i + 1, end - 1));
                }
                i = end;
            }
        }

        private void command(char c, String number) {
            switch (c) {
                case 't', 'b', 'a' -> tallies.add(tally(c));
                case 'm' -> {
                    if (!stand.isEmpty()) {
                        take(true);
                    }
                }
                case 'r' -> {
                    while (!over() && !stand.isEmpty()) {
                        take(true);
                    }
                }
                case 'e' -> {
                    int weight = tallies.isEmpty() ? 0 : last().weight;
                    while (!over() && !stand.isEmpty()
                            && 100 * best() > Integer.parseInt(number) * weight) {
                        take(true);
                    }
                }
                case 'x' -> {
                    if (stand.size() > seats - elected.size()) {
                        take(false);
                    }
                }
                default -> how = c;
            }
        }

        private Tally last() {
            return tallies.get(tallies.size() - 1);
        }

        private int got(int c) {
            return tallies.isEmpty() ? 0 : last().votes.get(c);
        }

        private int best() {
            return stand.stream().mapToInt(this::got).max().getAsInt();
        }

        private Tally tally(char kind) {
            Tally tally = new Tally();
            for (int c : stand) {
                tally.votes.put(c, 0);
            }
            for (List<Integer> order : ballots) {
                List<Integer> left = new ArrayList<>(order);
                left.retainAll(stand);
                for (int i = 0; i < left.size(); i++) {
                    int gives = kind == 't' ? (i == 0 ? 1 : 0) : kind == 'a' ? 1 : stand.size() - i;
                    tally.votes.merge(left.get(i), gives, Integer::sum);
                }
                tally.weight += left.isEmpty() ? 0 : 1;
            }
            return tally;
        }

        private void take(boolean most) {
            int worst = stand.stream().mapToInt(this::got).min().getAsInt();
            int bar = most ? best() : worst;
            List<Integer> left = new ArrayList<>();
            for (int c : stand) {
                if (got(c) == bar) {
                    left.add(c);
                }
            }
            if (left.size() > 1) {
                ties.add(set(left));
            }
            if (how == 'q') {
                for (int t = tallies.size() - 2; t >= 0; t--) {
                    Map<Integer, Integer> had = tallies.get(t).votes;
                    int edge = left.stream().mapToInt(had::get).reduce(
                            (x, y) -> most == (x > y) ? x : y).getAsInt();
                    left.removeIf(c -> had.get(c) != edge);
                }
            }
            int gone = how == 'h' ? left.get(left.size() - 1) : left.get(0);
            stand.remove(gone);
            if (most) {
                elected.add(gone);
            }
        }

        int winners() {
            return set(elected);
        }
    }

    private final Map<Integer, Entry> entries = new LinkedHashMap<>();
    private int entriesMade;
    private int today;
    private String text = "";
    private final List<String> rules = new ArrayList<>();
    private final List<Vote> votes = new ArrayList<>();
    private final List<Ballot> ballots = new ArrayList<>();
    private final List<Integer> marked = new ArrayList<>();

    static int set(Iterable<Integer> those) {
        int set = 0;
        for (int c : those) {
            set += 1 << c;
        }
        return set;
    }

    private static boolean in(int value, int first, int last) {
        return first <= value && value <= last;
    }

    long enter(int roll, int person, int from, int to) {
        if (!in(roll, 0, 2) || !in(person, 0, 19)) {
            return Check.INDEX;
        }
        if (!in(from, 0, 1000) || !in(to, from, 1000)) {
            return Check.ARGUMENT;
        }
        if (entriesMade == 60) {
            return Check.STATE;
        }
        entries.put(entriesMade, new Entry(roll, person, from, to));
        return entriesMade++;
    }

    long strike(int entry) {
        if (!in(entry, 0, entriesMade - 1)) {
            return Check.INDEX;
        }
        if (!entries.containsKey(entry)) {
            return Check.STATE;
        }
        int before = countAll();
        entries.remove(entry);
        return before - countAll();
    }

    private int countAll() {
        int all = 0;
        for (int v = 0; v < votes.size(); v++) {
            all += counting(v).size();
        }
        return all;
    }

    long isAllowed(int roll, int person, int day) {
        if (!in(roll, 0, 2) || !in(person, 0, 19)) {
            return Check.INDEX;
        }
        return !in(day, 0, 1000) ? Check.ARGUMENT : allowed(roll, person, day) ? 1 : 0;
    }

    private boolean allowed(int roll, int person, int day) {
        return entries.values().stream().anyMatch(e -> e.roll == roll && e.person == person
                && e.from <= day && day <= e.to);
    }

    long pass(int days) {
        if (!in(days, 1, 100)) {
            return Check.ARGUMENT;
        }
        return today + days > 1000 ? Check.STATE : (today += days);
    }

    long type(char letter) {
        if ("abcdefghijklmnopqrstuvwxyz0123456789;()".indexOf(letter) < 0) {
            return Check.ARGUMENT;
        }
        if (text.length() == 24) {
            return Check.STATE;
        }
        text += letter;
        return text.length();
    }

    long wipe() {
        int had = text.length();
        text = "";
        return had;
    }

    static boolean isRule(String text) {
        String row = text.replaceAll("([tbamxrlhq]|e[0-9][0-9]?);", "S");
        for (String last = ""; !last.equals(row);) {
            last = row;
            row = row.replaceAll("\\(S+\\)", "S");
        }
        return row.matches("S+");
    }

    private static boolean canGoOn(String start) {
        for (String more : new String[] {"", ";", "0;", "t;"}) {
            String whole = start + more;
            for (int close = 0; close <= 24; close++, whole += ")") {
                if (isRule(whole)) {
                    return true;
                }
            }
        }
        return false;
    }

    long fault() {
        if (isRule(text)) {
            return -1;
        }
        for (int i = 0; i < text.length(); i++) {
            if (!canGoOn(text.substring(0, i + 1))) {
                return i;
            }
        }
        return text.length();
    }

    long rule() {
        if (!isRule(text)) {
            return Check.ARGUMENT;
        }
        if (rules.size() == 8) {
            return Check.STATE;
        }
        rules.add(text);
        return rules.size() - 1;
    }

    long mend(int rule) {
        if (!in(rule, 0, rules.size() - 1)) {
            return Check.INDEX;
        }
        if (!isRule(text)) {
            return Check.ARGUMENT;
        }
        List<Integer> before = allWinners();
        rules.set(rule, text);
        List<Integer> after = allWinners();
        int others = 0;
        for (int v = 0; v < votes.size(); v++) {
            others += before.get(v).equals(after.get(v)) ? 0 : 1;
        }
        return others;
    }

    private List<Integer> allWinners() {
        List<Integer> all = new ArrayList<>();
        for (int v = 0; v < votes.size(); v++) {
            all.add(new Count(v).winners());
        }
        return all;
    }

    long commands(int rule) {
        return !in(rule, 0, rules.size() - 1) ? Check.INDEX
                : rules.get(rule).replaceAll("[^tbamxrlhqe]", "").length();
    }

    long open(int roll, int candidates, int seats, int rule) {
        if (!in(roll, 0, 2) || !in(rule, 0, rules.size() - 1)) {
            return Check.INDEX;
        }
        if (!in(candidates, 2, 6) || !in(seats, 1, candidates - 1)) {
            return Check.ARGUMENT;
        }
        if (votes.size() == 8) {
            return Check.STATE;
        }
        Vote vote = new Vote();
        vote.roll = roll;
        vote.candidates = candidates;
        vote.seats = seats;
        vote.rule = rule;
        votes.add(vote);
        return votes.size() - 1;
    }

    private boolean noVote(int vote) {
        return !in(vote, 0, votes.size() - 1);
    }

    private boolean noBallot(int ballot) {
        return !in(ballot, 0, ballots.size() - 1);
    }

    long close(int vote) {
        if (noVote(vote)) {
            return Check.INDEX;
        }
        if (votes.get(vote).closed) {
            return Check.STATE;
        }
        votes.get(vote).closed = true;
        return counting(vote).size();
    }

    long mark(int candidate) {
        if (!in(candidate, 0, 5)) {
            return Check.INDEX;
        }
        if (marked.contains(candidate)) {
            return Check.STATE;
        }
        marked.add(candidate);
        return marked.size();
    }

    long cast(int vote, int person) {
        if (noVote(vote) || !in(person, 0, 19)) {
            return Check.INDEX;
        }
        Vote v = votes.get(vote);
        if (v.closed || marked.isEmpty() || marked.stream().anyMatch(c -> c >= v.candidates)
                || ballots.size() == 100) {
            return Check.STATE;
        }
        Ballot ballot = new Ballot();
        ballot.vote = vote;
        ballot.person = person;
        ballot.day = today;
        ballot.written = new ArrayList<>(marked);
        ballots.add(ballot);
        marked.clear();
        return ballots.size() - 1;
    }

    long why(int ballot) {
        if (noBallot(ballot)) {
            return Check.INDEX;
        }
        Ballot b = ballots.get(ballot);
        int latest = -1;
        for (int i = 0; i < ballots.size(); i++) {
            if (ballots.get(i).vote == b.vote && ballots.get(i).person == b.person) {
                latest = i;
            }
        }
        return latest != ballot ? 1 : allowed(votes.get(b.vote).roll, b.person, b.day) ? 0 : 2;
    }

    private List<Integer> counting(int vote) {
        List<Integer> those = new ArrayList<>();
        for (int b = 0; b < ballots.size(); b++) {
            if (ballots.get(b).vote == vote && why(b) == 0) {
                those.add(b);
            }
        }
        return those;
    }

    long read(int ballot, int place) {
        if (noBallot(ballot) || !in(place, 0, 5)) {
            return Check.INDEX;
        }
        List<Integer> order = ballots.get(ballot).asRead();
        return place < order.size() ? order.get(place) : -1;
    }

    long misread(int ballot) {
        if (noBallot(ballot)) {
            return Check.INDEX;
        }
        Ballot b = ballots.get(ballot);
        if (b.misread || b.written.size() == 1) {
            return Check.STATE;
        }
        b.misread = true;
        return 0;
    }

    long sample(int vote, int seed, int many) {
        if (noVote(vote)) {
            return Check.INDEX;
        }
        if (!in(seed, 0, 9999) || !in(many, 1, 20)) {
            return Check.ARGUMENT;
        }
        List<Integer> those = counting(vote);
        if (those.isEmpty()) {
            return Check.STATE;
        }
        long number = seed;
        int found = 0;
        for (int i = 0; i < many; i++) {
            number = (number * 1103 + 12345) % 65536;
            Ballot drawn = ballots.get(those.get((int) (number % those.size())));
            votes.get(vote).draws.add(drawn.misread);
            found += drawn.misread ? 1 : 0;
            drawn.misread = false;
        }
        return found;
    }

    long recount(int vote) {
        if (noVote(vote)) {
            return Check.INDEX;
        }
        int found = 0;
        for (Ballot b : ballots) {
            if (b.vote == vote && b.misread) {
                b.misread = false;
                found++;
            }
        }
        return found;
    }

    long doubt(int vote) {
        if (noVote(vote)) {
            return Check.INDEX;
        }
        List<Boolean> draws = votes.get(vote).draws;
        long found = draws.stream().filter(d -> d).count();
        return draws.isEmpty() ? 0 : 100 * found / draws.size();
    }

    long winners(int vote) {
        return noVote(vote) ? Check.INDEX : new Count(vote).winners();
    }

    long tallies(int vote) {
        return noVote(vote) ? Check.INDEX : new Count(vote).tallies.size();
    }

    long votes(int vote, int tally, int candidate) {
        if (noVote(vote) || !in(candidate, 0, votes.get(vote).candidates - 1)) {
            return Check.INDEX;
        }
        List<Tally> all = new Count(vote).tallies;
        return !in(tally, 0, all.size() - 1) ? Check.INDEX
                : all.get(tally).votes.getOrDefault(candidate, -1);
    }

    long ties(int vote) {
        return noVote(vote) ? Check.INDEX : new Count(vote).ties.size();
    }

    long tied(int vote, int tie) {
        if (noVote(vote)) {
            return Check.INDEX;
        }
        List<Integer> all = new Count(vote).ties;
        return !in(tie, 0, all.size() - 1) ? Check.INDEX : all.get(tie);
    }

    long certify(int vote) {
        if (noVote(vote)) {
            return Check.INDEX;
        }
        if (!votes.get(vote).closed) {
            return Check.STATE;
        }
        votes.get(vote).certified = new Count(vote).winners();
        return votes.get(vote).certified;
    }

    long certified(int vote) {
        return noVote(vote) ? Check.INDEX : votes.get(vote).certified;
    }

    long stale() {
        int count = 0;
        for (int v = 0; v < votes.size(); v++) {
            int c = votes.get(v).certified;
            count += c != -1 && c != new Count(v).winners() ? 1 : 0;
        }
        return count;
    }
}
