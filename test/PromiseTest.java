/** Each promise by its number: ordinary inputs, the edges that the document names, wrong inputs. */
public final class PromiseTest extends Bench {
    public static void main(String[] args) {
        new PromiseTest().newObject();
        new PromiseTest().enter();
        new PromiseTest().strike();
        new PromiseTest().isAllowed();
        new PromiseTest().pass();
        new PromiseTest().type();
        new PromiseTest().wipe();
        new PromiseTest().fault();
        new PromiseTest().rule();
        new PromiseTest().mend();
        new PromiseTest().commands();
        new PromiseTest().open();
        new PromiseTest().close();
        new PromiseTest().mark();
        new PromiseTest().cast();
        new PromiseTest().why();
        new PromiseTest().read();
        new PromiseTest().misread();
        new PromiseTest().sample();
        new PromiseTest().sampleDrawsThoseThatCount();
        new PromiseTest().recount();
        new PromiseTest().doubt();
        new PromiseTest().winners();
        new PromiseTest().winnersByCommand();
        new PromiseTest().winnersAfterChanges();
        new PromiseTest().winnersByHand();
        new PromiseTest().tallies();
        new PromiseTest().deepBrackets();
        new PromiseTest().votes();
        new PromiseTest().ties();
        new PromiseTest().tied();
        new PromiseTest().brokenByEarlierTallies();
        new PromiseTest().certify();
        new PromiseTest().certified();
        new PromiseTest().stale();
        CHECK.end("PromiseTest");
    }

    // ---- helpers

    private void noVote(java.util.function.IntToLongFunction call) {
        for (int vote : new int[] {-1, 1, 8, LOW, HIGH}) {
            due("vote " + vote, Check.INDEX, () -> call.applyAsLong(vote));
        }
    }

    // ---- promises

    private void newObject() {
        about = "1";
        due("no entry", Check.INDEX, () -> x.strike(0));
        due("no rule", Check.INDEX, () -> x.commands(0));
        due("no vote", Check.INDEX, () -> x.winners(0));
        due("no ballot", Check.INDEX, () -> x.why(0));
        due("none allowed", 0, () -> x.isAllowed(0, 0, 0));
        due("no text", 0, () -> x.wipe());
        due("none stale", 0, () -> x.stale());
        due("none marked", 1, () -> x.mark(5));
        due("today is 0", 1, () -> x.pass(1));
        House other = new House();
        due("another house", 0, () -> other.enter(0, 0, 0, 0));
        due("apart from this one", Check.INDEX, () -> x.strike(0));
    }

    private void enter() {
        about = "2";
        due("first", 0, () -> x.enter(0, 0, 0, 0));
        due("last of each", 1, () -> x.enter(2, 19, 1000, 1000));
        due("all days", 2, () -> x.enter(1, 7, 0, 1000));
        for (int roll : new int[] {-1, 3, LOW, HIGH}) {
            due("roll " + roll, Check.INDEX, () -> x.enter(roll, 0, -1, 0));
        }
        for (int person : new int[] {-1, 20, LOW, HIGH}) {
            due("person " + person, Check.INDEX, () -> x.enter(0, person, 5, 4));
        }
        for (int day : new int[] {-1, 1001, LOW, HIGH}) {
            due("from " + day, Check.ARGUMENT, () -> x.enter(0, 0, day, 1000));
            due("to " + day, Check.ARGUMENT, () -> x.enter(0, 0, 0, day));
        }
        due("to ahead of from", Check.ARGUMENT, () -> x.enter(0, 0, 5, 4));
        due("nothing entered by those", 3, () -> x.enter(0, 3, 5, 5));
        due("still nothing", 0, () -> x.isAllowed(0, 0, 4));
        for (int entry = 4; entry < 60; entry++) {
            int number = entry;
            due("entry " + entry, number, () -> x.enter(0, 1, 0, 0));
        }
        due("61st", Check.STATE, () -> x.enter(0, 1, 0, 0));
        due("61st, range first", Check.ARGUMENT, () -> x.enter(0, 1, 1, 0));
        due("61st, roll first", Check.INDEX, () -> x.enter(3, 1, 1, 0));
        x.strike(59);
        due("a struck one keeps its number", Check.STATE, () -> x.enter(0, 1, 0, 0));
    }

    private void strike() {
        about = "3";
        x.ruleOf("t;m;");
        x.open(0, 3, 1, 0);
        x.open(0, 3, 1, 0);
        x.open(1, 3, 1, 0);
        x.enter(0, 4, 0, 5);
        x.enter(0, 4, 3, 9);
        x.enter(1, 4, 0, 9);
        x.ballot(0, 4, 0);
        x.ballot(1, 4, 0);
        x.ballot(2, 4, 0);
        due("of two votes", 2, () -> x.strike(0));
        due("barred then", Ballotscript.BARRED, () -> x.why(0));
        due("barred then", Ballotscript.BARRED, () -> x.why(1));
        due("of another roll", Ballotscript.COUNTS, () -> x.why(2));
        due("struck", Check.STATE, () -> x.strike(0));
        x.pass(4);
        x.ballot(0, 4, 1);
        due("a later one counts", Ballotscript.COUNTS, () -> x.why(3));
        x.enter(0, 4, 4, 4);
        due("another entry has the day", 0, () -> x.strike(1));
        due("counts by that", Ballotscript.COUNTS, () -> x.why(3));
        due("the last entry", 1, () -> x.strike(3));
        for (int entry : new int[] {-1, 4, LOW, HIGH}) {
            due("entry " + entry, Check.INDEX, () -> x.strike(entry));
        }
        x.close(2);
        due("of a closed vote", 1, () -> x.strike(2));
    }

    private void isAllowed() {
        about = "4";
        x.enter(1, 6, 10, 20);
        x.enter(1, 6, 15, 30);
        x.enter(2, 6, 40, 40);
        int[][] days = {{9, 0}, {10, 1}, {20, 1}, {21, 1}, {30, 1}, {31, 0}, {40, 0}, {0, 0}, {1000, 0}};
        for (int[] day : days) {
            due("day " + day[0], day[1], () -> x.isAllowed(1, 6, day[0]));
        }
        due("another roll", 1, () -> x.isAllowed(2, 6, 40));
        due("another person", 0, () -> x.isAllowed(1, 5, 10));
        x.strike(0);
        due("struck", 0, () -> x.isAllowed(1, 6, 14));
        due("by the other one", 1, () -> x.isAllowed(1, 6, 15));
        due("roll", Check.INDEX, () -> x.isAllowed(3, 0, 1001));
        due("roll", Check.INDEX, () -> x.isAllowed(-1, 0, 0));
        due("person", Check.INDEX, () -> x.isAllowed(0, 20, -1));
        due("person", Check.INDEX, () -> x.isAllowed(0, -1, 0));
        due("day", Check.ARGUMENT, () -> x.isAllowed(0, 0, -1));
        due("day", Check.ARGUMENT, () -> x.isAllowed(0, 0, 1001));
    }

    private void pass() {
        about = "5";
        due("one", 1, () -> x.pass(1));
        for (int days : new int[] {0, -1, 101, LOW, HIGH}) {
            due("days " + days, Check.ARGUMENT, () -> x.pass(days));
        }
        for (int day = 101; day <= 901; day += 100) {
            int today = day;
            due("a hundred", today, () -> x.pass(100));
        }
        due("behind 1000", Check.STATE, () -> x.pass(100));
        due("range first", Check.ARGUMENT, () -> x.pass(101));
        due("the last day", 1000, () -> x.pass(99));
        due("behind 1000", Check.STATE, () -> x.pass(1));
        x.ruleOf("m;");
        x.open(0, 2, 1, 0);
        x.enter(0, 0, 1000, 1000);
        x.ballot(0, 0, 1);
        due("a ballot is of today", Ballotscript.COUNTS, () -> x.why(0));
    }

    private void type() {
        about = "6";
        String letters = "azmyb09;()cdefghijklnopq";
        for (int letter = 0; letter < 256; letter++) {
            char one = (char) letter;
            boolean fits = one >= 'a' && one <= 'z' || one >= '0' && one <= '9' || ";()".indexOf(one) >= 0;
            x = new House();
            due("letter " + letter, fits ? 1 : Check.ARGUMENT, () -> x.type(one));
            due("letter " + letter + ", the text", fits ? 1 : 0, () -> x.wipe());
        }
        due("a far letter", Check.ARGUMENT, () -> x.type((char) ('a' + 256)));
        due("the last letter", Check.ARGUMENT, () -> x.type((char) 65535));
        x.wipe();
        for (int i = 0; i < 24; i++) {
            char letter = letters.charAt(i);
            due("letter " + (i + 1), i + 1, () -> x.type(letter));
        }
        due("25th", Check.STATE, () -> x.type(';'));
        due("25th, letter first", Check.ARGUMENT, () -> x.type('A'));
        due("nothing typed by those", 24, () -> x.wipe());
    }

    private void wipe() {
        about = "7";
        due("nothing", 0, () -> x.wipe());
        x.text("t;m;");
        due("four", 4, () -> x.wipe());
        due("empty then", 0, () -> x.wipe());
        due("empty then", 0, () -> x.fault());
        due("from the beginning", 1, () -> x.type('m'));
    }

    private void fault() {
        about = "8";
        Object[][] texts = {
            {"", 0}, {"t", 1}, {"t;", -1}, {"b;", -1}, {"a;", -1}, {"m;", -1}, {"x;", -1}, {"r;", -1},
            {"l;", -1}, {"h;", -1}, {"q;", -1}, {"e;", 1}, {"e", 1}, {"e5", 2}, {"e5;", -1}, {"e05;", -1},
            {"e00;", -1}, {"e99", 3}, {"e99;", -1}, {"e100;", 3}, {"e1t", 2}, {"e1(", 2}, {"e12)", 3},
            {"tt;", 1}, {"t;;", 2}, {";", 0}, {"5;", 0}, {")", 0}, {"t;)", 2}, {"(", 1}, {"()", 1},
            {"(t;", 3}, {"(t;)", -1}, {"(t;)t;", -1}, {"t;(t;)", -1}, {"(t;);", 4}, {"(t;))", 4},
            {"((t;)", 5}, {"((t;))", -1}, {"((t;)m;)", -1}, {"(t)", 2}, {"c;", 0}, {"t;c", 2}, {"z", 0},
            {"t5;", 1}, {"(;)", 1}, {"(e12;(x;))r", 11}, {"(t;)(m;)", -1}, {"m(", 1},
            {"((((((((((((((((((((((((", 24}, {"(((((((((((t;)))))))))))", -1}, {"((((((((((((t;))))))))))", 24},
            {"t;t;t;t;t;t;t;t;t;t;t;m;", -1}, {"t;t;t;t;t;t;t;t;t;t;t;m)", 23}, {"cz", 0}, {"e123456", 3}};
        for (Object[] text : texts) {
            x = new House();
            x.text((String) text[0]);
            due("of " + text[0], (Integer) text[1], () -> x.fault());
        }
    }

    private void rule() {
        about = "9";
        due("no text", Check.ARGUMENT, () -> x.rule());
        x.text("t;m");
        due("too short", Check.ARGUMENT, () -> x.rule());
        x.text("t;)m;");
        due("wrong", Check.ARGUMENT, () -> x.rule());
        x.text("t;m;");
        for (int rule = 0; rule < 8; rule++) {
            int number = rule;
            due("rule " + rule, number, () -> x.rule());
        }
        due("9th", Check.STATE, () -> x.rule());
        due("the text stays", 4, () -> x.wipe());
        due("9th, text first", Check.ARGUMENT, () -> x.rule());
        due("a rule keeps its text", 2, () -> x.commands(7));
        due("no 9th", Check.INDEX, () -> x.commands(8));
    }

    private void mend() {
        about = "10";
        house("t;m;", 3, 1);
        x.ruleOf("t;m;");
        x.open(0, 3, 1, 0);
        x.open(0, 3, 1, 1);
        x.open(0, 3, 1, 0);
        for (int vote = 0; vote < 3; vote++) {
            x.ballot(vote, 1, 2, 1);
            x.ballot(vote, 2, 2, 1);
            x.ballot(vote, 3, 1, 2);
        }
        due("as it was", 4, () -> x.winners(0));
        x.close(1);
        // vote 3 has no ballot: 0 wins it by any ties broken by l
        due("other winners, open and closed", 2, () -> x.mendTo(0, "l;m;t;x;"));
        due("another rule is not touched", 4, () -> x.winners(2));
        due("the same again", 0, () -> x.mend(0));
        due("a text that stays", 8, () -> x.wipe());
        due("no text", Check.ARGUMENT, () -> x.mend(0));
        for (int rule : new int[] {-1, 2, 8, LOW, HIGH}) {
            due("rule " + rule, Check.INDEX, () -> x.mend(rule));
        }
        x.text("t;m");
        due("too short", Check.ARGUMENT, () -> x.mend(1));
        due("not mended by those", 4, () -> x.winners(2));
        due("its commands are those of now", 4, () -> x.commands(0));
        house("h;r;", 4, 2);
        due("all seats by h", 12, () -> x.winners(0));
        due("by l", 1, () -> x.mendTo(0, "r;"));
        due("the lowest two", 3, () -> x.winners(0));
        due("a shorter rule leaves nothing behind", 1, () -> x.mendTo(0, "m;"));
        due("the lowest one", 1, () -> x.winners(0));
    }

    private void commands() {
        about = "11";
        Object[][] rules = {{"t;", 1}, {"(t;e50;x;)", 3}, {"((t;)(m;)x;)", 3}, {"e5;", 1}, {"e55;e5;", 2},
            {"t;t;t;t;t;t;t;t;t;t;t;m;", 12}, {"(((((((((((t;)))))))))))", 1}};
        for (int rule = 0; rule < rules.length; rule++) {
            int number = x.ruleOf((String) rules[rule][0]);
            due("of " + rules[rule][0], (Integer) rules[rule][1], () -> x.commands(number));
        }
        x.mendTo(5, "l;h;q;");
        due("mended", 3, () -> x.commands(5));
        for (int rule : new int[] {-1, 7, 8, LOW, HIGH}) {
            due("rule " + rule, Check.INDEX, () -> x.commands(rule));
        }
    }

    private void open() {
        about = "12";
        due("no rule", Check.INDEX, () -> x.open(0, 2, 1, 0));
        x.ruleOf("r;");
        due("fewest", 0, () -> x.open(0, 2, 1, 0));
        due("most", 1, () -> x.open(2, 6, 5, 0));
        for (int roll : new int[] {-1, 3, LOW, HIGH}) {
            due("roll " + roll, Check.INDEX, () -> x.open(roll, 1, 0, 0));
        }
        for (int rule : new int[] {-1, 1, 8, LOW, HIGH}) {
            due("rule " + rule, Check.INDEX, () -> x.open(0, 7, 1, rule));
        }
        for (int candidates : new int[] {1, 0, -1, 7, LOW, HIGH}) {
            due("candidates " + candidates, Check.ARGUMENT, () -> x.open(0, candidates, 1, 0));
        }
        for (int seats : new int[] {0, -1, 3, 4, LOW, HIGH}) {
            due("seats " + seats, Check.ARGUMENT, () -> x.open(0, 3, seats, 0));
        }
        due("six candidates, five seats", 31, () -> x.winners(1));
        for (int vote = 2; vote < 8; vote++) {
            int number = vote;
            due("vote " + vote, number, () -> x.open(1, 3, 2, 0));
        }
        due("9th", Check.STATE, () -> x.open(1, 3, 2, 0));
        due("9th, range first", Check.ARGUMENT, () -> x.open(1, 3, 3, 0));
        due("9th, roll first", Check.INDEX, () -> x.open(3, 3, 3, 0));
        due("open at first", 0, () -> x.close(7));
    }

    private void close() {
        about = "13";
        house("t;m;", 3, 1);
        x.open(1, 3, 1, 0);
        x.ballot(0, 1, 0);
        x.ballot(0, 1, 1);
        x.ballot(0, 2, 1);
        x.ballot(1, 3, 1);
        due("those that count", 2, () -> x.close(0));
        due("barred", 0, () -> x.close(1));
        due("closed", Check.STATE, () -> x.close(0));
        for (int vote : new int[] {-1, 2, LOW, HIGH}) {
            due("vote " + vote, Check.INDEX, () -> x.close(vote));
        }
        x.mark(0);
        due("no ballots then", Check.STATE, () -> x.cast(0, 5));
    }

    private void mark() {
        about = "14";
        for (int candidate : new int[] {-1, 6, LOW, HIGH}) {
            due("candidate " + candidate, Check.INDEX, () -> x.mark(candidate));
        }
        int[] order = {5, 0, 3, 1, 4, 2};
        for (int i = 0; i < 6; i++) {
            int many = i + 1;
            due("candidate " + order[i], many, () -> x.mark(order[many - 1]));
            due("marked", Check.STATE, () -> x.mark(order[many - 1]));
        }
        x.ruleOf("m;");
        x.open(0, 6, 1, 0);
        x.cast(0, 0);
        for (int i = 0; i < 6; i++) {
            int place = i;
            due("place " + place, order[place], () -> x.read(0, place));
        }
    }

    private void cast() {
        about = "15";
        house("t;m;", 3, 1);
        x.open(0, 4, 1, 0);
        due("none marked", Check.STATE, () -> x.cast(0, 0));
        x.mark(3);
        x.mark(1);
        due("no candidate of the vote", Check.STATE, () -> x.cast(0, 0));
        for (int vote : new int[] {-1, 2, LOW, HIGH}) {
            due("vote " + vote, Check.INDEX, () -> x.cast(vote, 0));
        }
        for (int person : new int[] {-1, 20, LOW, HIGH}) {
            due("person " + person, Check.INDEX, () -> x.cast(0, person));
        }
        due("they stay marked", 0, () -> x.cast(1, 19));
        due("first", 3, () -> x.read(0, 0));
        due("second", 1, () -> x.read(0, 1));
        due("none are marked then", Check.STATE, () -> x.cast(1, 19));
        due("none are marked then", 1, () -> x.mark(3));
        due("the vote has it", 1, () -> x.cast(1, 0));
        x.close(1);
        x.mark(0);
        due("closed", Check.STATE, () -> x.cast(1, 0));
        due("closed, person first", Check.INDEX, () -> x.cast(1, 20));
        for (int ballot = 2; ballot < 100; ballot++) {
            int number = ballot;
            due("ballot " + ballot, number, () -> {
                int given = x.cast(0, number % 20);
                x.mark(number % 3);
                return given;
            });
        }
        due("101st", Check.STATE, () -> x.cast(0, 0));
        due("the last one", Ballotscript.COUNTS, () -> x.why(99));
        due("no 101st", Check.INDEX, () -> x.why(100));
    }

    private void why() {
        about = "16";
        x.ruleOf("t;m;");
        x.open(0, 3, 1, 0);
        x.open(0, 3, 1, 0);
        x.enter(0, 1, 0, 3);
        x.enter(0, 2, 4, 9);
        x.ballot(0, 1, 0);
        x.ballot(0, 2, 0);
        x.ballot(1, 1, 0);
        due("allowed", Ballotscript.COUNTS, () -> x.why(0));
        due("not allowed that day", Ballotscript.BARRED, () -> x.why(1));
        x.pass(4);
        x.ballot(0, 1, 1);
        x.ballot(0, 2, 1);
        due("later ahead of all", Ballotscript.LATER, () -> x.why(0));
        due("later ahead of barred", Ballotscript.LATER, () -> x.why(1));
        due("of another vote", Ballotscript.COUNTS, () -> x.why(2));
        due("the latest is barred", Ballotscript.BARRED, () -> x.why(3));
        due("the latest counts", Ballotscript.COUNTS, () -> x.why(4));
        x.enter(0, 1, 4, 4);
        due("by what is told by now", Ballotscript.COUNTS, () -> x.why(3));
        for (int ballot : new int[] {-1, 5, 100, LOW, HIGH}) {
            due("ballot " + ballot, Check.INDEX, () -> x.why(ballot));
        }
    }

    private void read() {
        about = "17";
        house("t;m;", 6, 1);
        x.ballot(0, 0, 5, 4, 3, 2, 1, 0);
        x.ballot(0, 1, 2);
        x.ballot(0, 2, 1, 3, 0);
        for (int place = 0; place < 6; place++) {
            int one = place;
            due("place " + place, 5 - place, () -> x.read(0, one));
            due("of one, place " + place, place == 0 ? 2 : Ballotscript.NONE, () -> x.read(1, one));
        }
        x.misread(2);
        due("misread, first", 3, () -> x.read(2, 0));
        due("misread, second", 1, () -> x.read(2, 1));
        due("misread, third", 0, () -> x.read(2, 2));
        due("misread, none", Ballotscript.NONE, () -> x.read(2, 3));
        for (int place : new int[] {-1, 6, LOW, HIGH}) {
            due("place " + place, Check.INDEX, () -> x.read(0, place));
        }
        for (int ballot : new int[] {-1, 3, 100, LOW, HIGH}) {
            due("ballot " + ballot, Check.INDEX, () -> x.read(ballot, 0));
        }
    }

    private void misread() {
        about = "18";
        house("t;m;", 3, 1);
        x.ballot(0, 0, 2, 1);
        x.ballot(0, 1, 0);
        due("before", 1, () -> x.winners(0));
        due("two", 0, () -> x.misread(0));
        due("misread", Check.STATE, () -> x.misread(0));
        due("still misread", 1, () -> x.read(0, 0));
        due("one alone", Check.STATE, () -> x.misread(1));
        for (int ballot : new int[] {-1, 2, 100, LOW, HIGH}) {
            due("ballot " + ballot, Check.INDEX, () -> x.misread(ballot));
        }
        x.ballot(0, 0, 2);
        due("of one that does not count", 1, () -> x.recount(0));
        due("again after it is put right", 0, () -> x.misread(0));
        x.ballot(0, 2, 2, 1);
        due("counts go by what is read", 4, () -> x.winners(0));
        x.close(0);
        due("in a closed vote", 0, () -> x.misread(3));
        bothWinners("the machine read 1, 0 and 2", 1);
    }

    private void sample() {
        about = "19";
        house("t;m;", 3, 1);
        x.open(0, 3, 1, 0);
        due("none counts", Check.STATE, () -> x.sample(0, 0, 1));
        due("none counts, range first", Check.ARGUMENT, () -> x.sample(0, -1, 1));
        for (int person = 0; person < 5; person++) {
            x.ballot(0, person, 0, 1);
        }
        // 12345, 62928, 19305, .. of which the places are 0 3 0 0 0 3 1 4 4 1 0 0 2 3 4 0 4 3 2 3
        x.misread(2);
        due("the first twelve", 0, () -> x.sample(0, 0, 12));
        due("misread still", 1, () -> x.read(2, 0));
        due("the thirteenth", 1, () -> x.sample(0, 0, 13));
        due("put right", 0, () -> x.read(2, 0));
        x.misread(3);
        due("drawn twice, found once", 1, () -> x.sample(0, 0, 6));
        x.misread(1);
        x.misread(4);
        due("the first six", 0, () -> x.sample(0, 0, 6));
        due("both, each once", 2, () -> x.sample(0, 0, 20));
        for (int seed : new int[] {-1, 10000, LOW, HIGH}) {
            due("seed " + seed, Check.ARGUMENT, () -> x.sample(0, seed, 1));
        }
        for (int many : new int[] {0, -1, 21, LOW, HIGH}) {
            due("many " + many, Check.ARGUMENT, () -> x.sample(0, 0, many));
        }
        for (int vote : new int[] {-1, 2, LOW, HIGH}) {
            due("vote " + vote, Check.INDEX, () -> x.sample(vote, -1, 1));
        }
        due("the last seed", 0, () -> x.sample(0, 9999, 20));
        due("another vote", Check.STATE, () -> x.sample(1, 1, 1));
    }

    private void sampleDrawsThoseThatCount() {
        about = "19";
        house("t;m;", 3, 1);
        x.open(0, 3, 1, 0);
        x.ballot(0, 0, 0, 1);
        x.ballot(1, 0, 0, 1);
        x.ballot(0, 0, 0, 1);
        x.ballot(0, 1, 0, 1);
        x.misread(0);
        x.misread(1);
        x.misread(2);
        x.misread(3);
        x.strike(1);
        due("only the one that counts", 1, () -> x.sample(0, 77, 20));
        due("a later one was there", 1, () -> x.read(0, 0));
        due("of another vote", 1, () -> x.read(1, 0));
        due("counts", 0, () -> x.read(2, 0));
        due("barred", 1, () -> x.read(3, 0));
        x.close(0);
        x.misread(2);
        due("of a closed vote", 1, () -> x.sample(0, 0, 1));
    }

    private void recount() {
        about = "20";
        house("t;m;", 3, 1);
        x.open(0, 3, 1, 0);
        x.ballot(0, 0, 0, 1);
        x.ballot(0, 0, 0, 1);
        x.ballot(0, 1, 0, 1);
        x.ballot(1, 1, 0, 1);
        due("none", 0, () -> x.recount(0));
        for (int one = 0; one < 4; one++) {
            x.misread(one);
        }
        x.strike(1);
        due("those that do not count, too", 3, () -> x.recount(0));
        for (int one = 0; one < 4; one++) {
            int number = one;
            due("ballot " + one, one == 3 ? 1 : 0, () -> x.read(number, 0));
        }
        due("again", 0, () -> x.recount(0));
        due("no draws", 0, () -> x.doubt(0));
        for (int vote : new int[] {-1, 2, LOW, HIGH}) {
            due("vote " + vote, Check.INDEX, () -> x.recount(vote));
        }
    }

    private void doubt() {
        about = "21";
        house("t;m;", 3, 1);
        x.open(0, 3, 1, 0);
        due("no draws", 0, () -> x.doubt(0));
        x.ballot(0, 0, 0, 1);
        x.misread(0);
        x.sample(0, 1, 1);
        due("one of one", 100, () -> x.doubt(0));
        x.sample(0, 1, 2);
        due("one of three, rounded down", 33, () -> x.doubt(0));
        x.misread(0);
        x.sample(0, 5, 3);
        due("two of six", 33, () -> x.doubt(0));
        x.misread(0);
        x.recount(0);
        x.sample(0, 5, 1);
        due("two of seven", 28, () -> x.doubt(0));
        due("a call that throws is no draw", Check.ARGUMENT, () -> x.sample(0, 5, 21));
        due("two of seven", 28, () -> x.doubt(0));
        due("another vote", 0, () -> x.doubt(1));
        noVoteOf(2, x::doubt);
    }

    private void noVoteOf(int votes, java.util.function.IntToLongFunction call) {
        for (int vote : new int[] {-1, votes, 8, LOW, HIGH}) {
            due("vote " + vote, Check.INDEX, () -> call.applyAsLong(vote));
        }
    }

    private void winners() {
        about = "22";
        house("t;m;", 3, 1);
        bothWinners("without ballots the lowest", 1);
        x.ballot(0, 0, 2);
        bothWinners("open", 4);
        x.ballot(0, 1, 1);
        x.ballot(0, 2, 1, 2);
        bothWinners("most", 2);
        x.close(0);
        bothWinners("closed", 2);
        noVote(x::winners);
    }

    /** What each command does, told by the winners of the same ballots. */
    private void winnersByCommand() {
        about = "22";
        // t: 3 2 1 1; b: 12 17 14 10; a: 3 5 4 3; weight 7
        Object[][] rules = {
            {"t;m;", 1}, {"b;m;", 2}, {"a;m;", 2}, {"t;r;", 3}, {"b;r;", 6}, {"a;r;", 6},
            {"t;e42;", 1}, {"t;e43;", 0}, {"t;e28;", 3}, {"t;e29;", 1}, {"t;e14;", 3}, {"e0;", 0},
            {"a;e58;", 2}, {"a;e57;", 6}, {"a;e71;", 2}, {"a;e72;", 0}, {"b;e99;", 6},
            {"x;m;", 2}, {"h;x;m;", 4}, {"h;m;", 8}, {"h;m;l;m;", 9}, {"h;m;q;m;", 9}, {"m;m;m;m;", 3},
            {"t;x;t;r;", 3}, {"x;t;r;", 6}, {"x;x;r;", 12}, {"x;x;x;x;r;", 12}, {"h;x;x;x;r;", 3},
            {"t;h;x;t;m;m;", 5}, {"(m;)", 3}, {"(x;)m;", 4}, {"(x;)(m;)", 12}, {"(t;e50;x;)", 0},
            {"(t;e50;x;)r;", 9}, {"t;m;x;r;", 3}, {"t;m;t;m;", 3}, {"t;m;b;m;", 3}, {"x;m;b;m;", 6},
            {"l;", 0}, {"t;", 0}, {"x;", 0}, {"m;x;x;x;m;", 9}};
        for (Object[] rule : rules) {
            house((String) rule[0], 4, 2);
            x.ballots(0, "01", "01", "02", "12", "13", "23", "321");
            bothWinners((String) rule[0], (Integer) rule[1]);
        }
    }

    private void winnersAfterChanges() {
        about = "22";
        house("t;m;", 3, 1);
        x.ballot(0, 0, 1, 2);
        x.ballot(0, 1, 2);
        x.close(0);
        bothWinners("1 and 2 tied", 2);
        x.strike(0);
        bothWinners("0 is barred", 4);
        x.enter(0, 0, 0, 0);
        bothWinners("0 is allowed", 2);
        x.misread(0);
        bothWinners("misread", 4);
        x.recount(0);
        bothWinners("put right", 2);
        x.mendTo(0, "h;t;m;");
        bothWinners("mended", 4);
        x.certify(0);
        bothWinners("certified", 4);
        x.strike(1);
        bothWinners("1 is barred, behind the certificate", 2);
        tallyIs(0, 0, 1, 0);
        tiesAre();
        due("the certificate stays", 4, () -> x.certified(0));
    }

    private void winnersByHand() {
        about = "23";
        house("t;m;", 6, 5);
        bothWinners("one of five", 1);
        x.mendTo(0, "r;");
        bothWinners("all five", 31);
        x.mendTo(0, "(((((((((((m;)))))))))))");
        bothWinners("all five, by brackets", 31);
        noVote(x::winnersByHand);
    }

    private void tallies() {
        about = "24";
        house("t;m;", 6, 1);
        x.ballot(0, 0, 1);
        Object[][] rules = {{"t;m;", 1}, {"m;t;", 0}, {"t;e0;t;", 1}, {"t;b;a;t;", 4}, {"m;", 0}, {"(t;)", 1},
            {"(t;x;)", 6}, {"(t;x;)t;", 7}, {"x;(x;t;)", 5}, {"(t;(x;))", 2}, {"((t;x;)b;)", 9}, {"(t;m;b;)", 1},
            {"(t;t;t;t;t;t;t;t;t;t;x;)", 60}};
        for (Object[] rule : rules) {
            x.mendTo(0, (String) rule[0]);
            due((String) rule[0], (Integer) rule[1], () -> x.tallies(0));
        }
        noVote(x::tallies);
    }

    private void deepBrackets() {
        about = "24";
        house("((((((((((t;x;))))))))))", 6, 1);
        due("the innermost row: six times, and once more for each bracket round it", 15, () -> x.tallies(0));
        due("the last one", 0, () -> x.votes(0, 14, 5));
        due("none behind it", Check.INDEX, () -> x.votes(0, 15, 5));
        bothWinners("nobody is elected", 0);
    }

    private void votes() {
        about = "25";
        house("t;b;a;x;t;b;a;", 4, 1);
        x.ballot(0, 0, 2, 1);
        x.ballot(0, 1, 2, 3, 1, 0);
        x.ballot(0, 2, 1, 2, 3);
        x.ballot(0, 3, 0);
        // the lowest of those with the fewest of a is out: 0
        int[][] all = {{1, 1, 2, 0}, {5, 9, 11, 5}, {2, 3, 3, 2}, {-1, 1, 2, 0}, {-1, 6, 8, 3}, {-1, 3, 3, 2}};
        for (int tally = 0; tally < all.length; tally++) {
            for (int candidate = 0; candidate < 4; candidate++) {
                int t = tally;
                int c = candidate;
                due("tally " + t + ", candidate " + c, all[t][c], () -> x.votes(0, t, c));
            }
        }
        for (int tally : new int[] {-1, 6, LOW, HIGH}) {
            due("tally " + tally, Check.INDEX, () -> x.votes(0, tally, 0));
        }
        for (int candidate : new int[] {-1, 4, 5, 6, LOW, HIGH}) {
            due("candidate " + candidate, Check.INDEX, () -> x.votes(0, 0, candidate));
        }
        noVote(vote -> x.votes(vote, 0, 0));
        x.misread(0);
        due("as it is read", 2, () -> x.votes(0, 0, 1));
        due("as it is read", 1, () -> x.votes(0, 0, 2));
        x.strike(3);
        due("barred", 0, () -> x.votes(0, 0, 0));
        x.mendTo(0, "t;e24;b;");
        due("an elected one stands no more", Check.INDEX, () -> x.votes(0, 1, 1));
        x.open(0, 4, 2, 0);
        x.ballot(1, 0, 3, 1);
        due("the elected one", Ballotscript.NONE, () -> x.votes(1, 1, 3));
        due("three stand", 3, () -> x.votes(1, 1, 1));
    }

    private void ties() {
        about = "26";
        house("m;", 4, 2);
        Object[][] rules = {{"m;", 1}, {"r;", 2}, {"x;", 1}, {"x;x;x;", 2}, {"e0;", 0}, {"t;e0;", 0},
            {"t;e99;", 0}, {"x;x;m;", 3}, {"x;x;r;", 3}, {"(x;m;)", 3}, {"t;", 0}};
        for (Object[] rule : rules) {
            x.mendTo(0, (String) rule[0]);
            due((String) rule[0], (Integer) rule[1], () -> x.ties(0));
        }
        x.ballot(0, 0, 1);
        x.ballot(0, 1, 2);
        x.mendTo(0, "t;e0;");
        due("the second one alone", 1, () -> x.ties(0));
        x.mendTo(0, "t;e50;");
        due("with e nobody elected", 0, () -> x.ties(0));
        noVote(x::ties);
    }

    private void tied() {
        about = "27";
        house("h;r;", 4, 2);
        due("first", 15, () -> x.tied(0, 0));
        due("second", 7, () -> x.tied(0, 1));
        for (int tie : new int[] {-1, 2, 6, LOW, HIGH}) {
            due("tie " + tie, Check.INDEX, () -> x.tied(0, tie));
        }
        x.ballot(0, 0, 1, 3);
        x.ballot(0, 1, 3);
        x.mendTo(0, "b;t;x;q;m;");
        due("worst", 5, () -> x.tied(0, 0));
        due("best, whole, ahead of q", 10, () -> x.tied(0, 1));
        bothWinners("by the tally ahead", 8);
        noVote(vote -> x.tied(vote, 0));
    }

    private void brokenByEarlierTallies() {
        about = "27";
        house("m;", 4, 1);
        x.ballot(0, 0, 0, 1, 2);
        x.ballot(0, 1, 1, 0);
        x.ballot(0, 2, 2);
        x.ballot(0, 3, 3, 2);
        // t: 1 1 1 1; b: 7 7 9 4 (0: 4+3, 1: 3+4, 2: 2+4+3); a: 2 2 3 1
        Object[][] rules = {
            {"q;t;m;", 1}, {"q;b;t;m;", 4}, {"q;t;b;t;m;", 4}, {"b;t;m;", 1}, {"b;t;q;h;m;", 8},
            {"q;b;t;x;b;t;m;", 4}, {"b;q;t;x;a;", 0}};
        for (Object[] rule : rules) {
            x.mendTo(0, (String) rule[0]);
            bothWinners((String) rule[0], (Integer) rule[1]);
        }
        x.mendTo(0, "b;q;t;x;t;");
        due("the worst one has the fewest", Ballotscript.NONE, () -> x.votes(0, 2, 3));
        due("the others stand", 1, () -> x.votes(0, 2, 0));
        x.mendTo(0, "t;q;m;");
        due("no tally ahead: the lowest", 1, () -> x.winners(0));
    }

    private void certify() {
        about = "28";
        house("t;m;", 3, 1);
        x.ballot(0, 0, 2);
        due("open", Check.STATE, () -> x.certify(0));
        due("nothing certified by that", Ballotscript.NONE, () -> x.certified(0));
        x.close(0);
        due("winners", 4, () -> x.certify(0));
        due("again", 4, () -> x.certify(0));
        x.strike(0);
        due("as they are now", 1, () -> x.certify(0));
        due("in place of those", 1, () -> x.certified(0));
        noVote(x::certify);
    }

    private void certified() {
        about = "29";
        house("t;m;", 3, 1);
        due("none", Ballotscript.NONE, () -> x.certified(0));
        x.ballot(0, 0, 1);
        x.close(0);
        due("none by closing", Ballotscript.NONE, () -> x.certified(0));
        x.certify(0);
        due("these", 2, () -> x.certified(0));
        x.strike(0);
        due("not those of now", 2, () -> x.certified(0));
        x.mendTo(0, "t;");
        x.certify(0);
        due("nobody is a set, too", 0, () -> x.certified(0));
        noVote(x::certified);
    }

    private void stale() {
        about = "30";
        house("t;m;", 3, 1);
        x.open(0, 3, 1, 0);
        x.open(0, 3, 1, 0);
        for (int vote = 0; vote < 3; vote++) {
            x.ballot(vote, vote, 1, 2);
        }
        due("none certified", 0, () -> x.stale());
        x.close(0);
        x.close(1);
        x.certify(0);
        x.certify(1);
        due("those of now", 0, () -> x.stale());
        x.strike(0);
        due("struck", 1, () -> x.stale());
        x.misread(1);
        due("misread", 2, () -> x.stale());
        x.misread(2);
        due("not certified", 2, () -> x.stale());
        x.recount(1);
        due("put right", 1, () -> x.stale());
        x.enter(0, 0, 0, 5);
        due("allowed again", 0, () -> x.stale());
        x.mendTo(0, "t;");
        due("mended", 2, () -> x.stale());
        x.certify(1);
        due("certified anew", 1, () -> x.stale());
        x.mendTo(0, "t;m;");
        due("mended back: the other one", 1, () -> x.stale());
    }
}
