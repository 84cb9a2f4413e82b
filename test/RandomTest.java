/** Long runs of calls that look drawn (by a fixed row of numbers), each answer held to the Model. */
public final class RandomTest {
    private static final int RUNS = 3000;
    // what is begun by then ends within the 512 calls that the document allows
    private static final int CALLS = 484;
    private static final String[] RULES = {
        "t;e50;(x;t;e50;)r;", "(t;e50;x;)", "q;t;(t;x;)r;", "b;m;", "b;h;r;", "a;r;", "t;x;b;x;a;r;",
        "q;b;a;t;x;r;", "((t;e33;)x;)", "a;e99;x;x;", "l;m;h;m;q;m;", "t;e0;", "e0;t;e1;", "x;x;",
        "(((t;q;x;t;)a;)b;)m;", "(q;b;t;a;e40;t;x;)", "((((((((((t;x;))))))))))", "(x;)", "(m;)",
        "h;(x;b;e20;)", "q;a;b;(t;e50;x;)", "(t;t;t;t;t;t;t;t;t;t;x;)", "((b;e25;)q;t;x;)r;"};
    private static final String LETTERS = "tbamxrlhqe;;;;()()0123456789cz";

    private final Check check = new Check();
    private final int run;
    private long number;
    private House x;
    private Model m;
    // how wild the arguments are, and which days, candidates and persons this run prefers
    private int wild;

    private RandomTest(int run) {
        this.run = run;
        this.number = run * 7919L + 17;
    }

    public static void main(String[] args) {
        long[] shapes = new long[3];
        for (int run = 0; run < RUNS; run++) {
            RandomTest test = new RandomTest(run);
            test.go(shapes);
            if (!test.check.isClean()) {
                System.out.println("run " + run + " is the wrong one");
                System.exit(1);
            }
        }
        System.out.println("RandomTest: " + RUNS + " runs as due; most tallies " + shapes[0]
                + ", ties " + shapes[1] + ", stale " + shapes[2]);
        if (shapes[0] < 20 || shapes[1] < 5 || shapes[2] < 2) {
            System.out.println("the runs are too tame");
            System.exit(1);
        }
    }

    private int next(int many) {
        number = number * 6364136223846793005L + 1442695040888963407L;
        return (int) ((number >>> 33) % many);
    }

    private int from(int first, int last) {
        if (next(1000) < wild) {
            int[] odd = {first - 1, last + 1, Integer.MIN_VALUE, Integer.MAX_VALUE, -1, 0, 1000, 1001};
            return odd[next(odd.length)];
        }
        return first + next(last - first + 1);
    }

    private void due(String call, long want, Check.Call got) {
        check.due("run " + run + ": " + call, want, got);
    }

    private void go(long[] shapes) {
        x = new House();
        m = new Model();
        wild = next(4) * 20;
        int left = CALLS;
        left -= next(3) == 0 ? 0 : prepare();
        boolean askMuch = next(2) == 0;
        while (left > 0 && check.isClean()) {
            left -= askMuch && next(3) > 0 ? ask() : tell();
        }
        for (int vote = 0; vote < 8; vote++) {
            shapes[0] = Math.max(shapes[0], m.tallies(vote));
            shapes[1] = Math.max(shapes[1], m.ties(vote));
        }
        shapes[2] = Math.max(shapes[2], m.stale());
    }

    private int prepare() {
        int calls = 0;
        for (int i = 0, many = next(4) + 1; i < many; i++) {
            calls += typeRule();
            due("rule()", m.rule(), () -> x.rule());
            calls++;
        }
        for (int i = 0, many = next(4) + 1; i < many; i++) {
            int c = 2 + next(5);
            open(next(2), c, 1 + next(c - 1), next(4));
            calls++;
        }
        return calls;
    }

    private int typeRule() {
        int calls = 1;
        due("wipe()", m.wipe(), () -> x.wipe());
        String rule = next(5) > 0 ? RULES[next(RULES.length)] : made();
        for (char letter : rule.toCharArray()) {
            type(letter);
            calls++;
        }
        due("fault() of " + rule, m.fault(), () -> x.fault());
        return calls + 1;
    }

    private String made() {
        StringBuilder text = new StringBuilder();
        int open = 0;
        for (int i = 0, many = 1 + next(9); i < many; i++) {
            int kind = next(8);
            if (kind == 0) {
                text.append('(');
                open++;
            }
            char command = "tbamxrlhqe".charAt(next(10));
            text.append(command).append(command == 'e' ? Integer.toString(next(100)) : "").append(';');
            if (kind == 1 && open > 0) {
                text.append(')');
                open--;
            }
        }
        text.append(")".repeat(open));
        return text.length() > 24 ? text.substring(0, 24) : text.toString();
    }

    private void type(char letter) {
        due("type(" + letter + ")", m.type(letter), () -> x.type(letter));
    }

    private void open(int roll, int candidates, int seats, int rule) {
        due("open(" + roll + ", " + candidates + ", " + seats + ", " + rule + ")",
                m.open(roll, candidates, seats, rule), () -> x.open(roll, candidates, seats, rule));
    }

    private int tell() {
        int what = next(40);
        if (what < 14) {
            return castOne();
        }
        if (what < 20) {
            int roll = from(0, 1);
            int person = from(0, 9);
            int first = next(3) == 0 ? from(0, 1000) : 0;
            int last = next(3) == 0 ? from(0, 1000) : 1000;
            due("enter(" + roll + ", " + person + ", " + first + ", " + last + ")",
                    m.enter(roll, person, first, last), () -> x.enter(roll, person, first, last));
        } else if (what < 23) {
            int entry = from(0, 12);
            due("strike(" + entry + ")", m.strike(entry), () -> x.strike(entry));
        } else if (what < 25) {
            int days = next(3) == 0 ? from(1, 100) : from(1, 5);
            due("pass(" + days + ")", m.pass(days), () -> x.pass(days));
        } else if (what < 30) {
            int ballot = from(0, 40);
            due("misread(" + ballot + ")", m.misread(ballot), () -> x.misread(ballot));
        } else if (what < 32) {
            int vote = from(0, 3);
            int seed = from(0, 9999);
            int many = from(1, 20);
            due("sample(" + vote + ", " + seed + ", " + many + ")",
                    m.sample(vote, seed, many), () -> x.sample(vote, seed, many));
        } else {
            return tellRarely(what - 32);
        }
        return 1;
    }

    private int tellRarely(int what) {
        int vote = from(0, 3);
        switch (what) {
            case 0 -> due("recount(" + vote + ")", m.recount(vote), () -> x.recount(vote));
            case 1 -> {
                if (next(3) == 0) {
                    due("close(" + vote + ")", m.close(vote), () -> x.close(vote));
                }
            }
            case 2, 3 -> due("certify(" + vote + ")", m.certify(vote), () -> x.certify(vote));
            case 4 -> {
                int calls = typeRule();
                int rule = from(0, 3);
                due("mend(" + rule + ")", m.mend(rule), () -> x.mend(rule));
                return calls + 1;
            }
            case 5 -> due("rule()", m.rule(), () -> x.rule());
            case 6 -> {
                int candidates = from(2, 6);
                open(from(0, 2), candidates, from(1, 5), from(0, 3));
            }
            default -> {
                char letter = next(20) == 0 ? (char) next(300) : LETTERS.charAt(next(LETTERS.length()));
                type(letter);
                due("fault()", m.fault(), () -> x.fault());
                return 2;
            }
        }
        return 1;
    }

    private int castOne() {
        int many = 1 + next(5);
        for (int i = 0; i < many; i++) {
            int candidate = from(0, 3 + next(3));
            due("mark(" + candidate + ")", m.mark(candidate), () -> x.mark(candidate));
        }
        int vote = from(0, 3);
        int person = from(0, 9);
        due("cast(" + vote + ", " + person + ")", m.cast(vote, person), () -> x.cast(vote, person));
        return many + 1;
    }

    private int ask() {
        int vote = from(0, 3);
        int ballot = from(0, 40);
        switch (next(12)) {
            case 0 -> due("winners(" + vote + ")", m.winners(vote), () -> x.winners(vote));
            case 1 -> due("winnersByHand(" + vote + ")", m.winners(vote), () -> x.winnersByHand(vote));
            case 2 -> due("tallies(" + vote + ")", m.tallies(vote), () -> x.tallies(vote));
            case 3, 4 -> {
                int tally = from(0, 4);
                int candidate = from(0, 5);
                due("votes(" + vote + ", " + tally + ", " + candidate + ")",
                        m.votes(vote, tally, candidate), () -> x.votes(vote, tally, candidate));
            }
            case 5 -> due("ties(" + vote + ")", m.ties(vote), () -> x.ties(vote));
            case 6 -> {
                int tie = from(0, 3);
                due("tied(" + vote + ", " + tie + ")", m.tied(vote, tie), () -> x.tied(vote, tie));
            }
            case 7 -> due("stale()", m.stale(), () -> x.stale());
            case 8 -> due("why(" + ballot + ")", m.why(ballot), () -> x.why(ballot));
            case 9 -> {
                int place = from(0, 5);
                due("read(" + ballot + ", " + place + ")", m.read(ballot, place), () -> x.read(ballot, place));
            }
            case 10 -> {
                due("doubt(" + vote + ")", m.doubt(vote), () -> x.doubt(vote));
                due("certified(" + vote + ")", m.certified(vote), () -> x.certified(vote));
                return 2;
            }
            default -> {
                int roll = from(0, 2);
                int person = from(0, 19);
                int day = from(0, 1000);
                due("isAllowed(" + roll + ", " + person + ", " + day + ")", m.isAllowed(roll, person, day),
                        () -> x.isAllowed(roll, person, day));
                int rule = from(0, 4);
                due("commands(" + rule + ")", m.commands(rule), () -> x.commands(rule));
                return 2;
            }
        }
        return 1;
    }
}
