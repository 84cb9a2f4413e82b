/**
 * Each sentence of the document that names a boundary, by its own words: just inside, just outside,
 * the empty and the full one. The counts are CountTest's, what is refused is RefusalTest's.
 */
public final class BoundaryTest extends Bench {
    private static final int COUNTS = Ballotscript.COUNTS;
    private static final int LATER = Ballotscript.LATER;
    private static final int BARRED = Ballotscript.BARRED;
    private static final String COMMANDS = "tbamxrlhq";

    public static void main(String[] args) {
        BoundaryTest test = new BoundaryTest();
        test.entries();
        test.votesAndBallots();
        test.texts();
        test.answersOfRolls();
        test.answersOfRules();
        test.answersOfBallots();
        test.answersOfTheDesk();
        test.answersOfCounts();
        CHECK.end("BoundaryTest");
    }

    // ---- helpers

    private void faultIs(int want, String text) {
        x = new House();
        x.text(text);
        due("fault of " + text, want, () -> x.fault());
        due("rule of " + text, want == NONE ? 0 : Check.ARGUMENT, () -> x.rule());
    }

    // ---- entries

    private void entries() {
        says("Days are 0 to 1000; today is 0 at first.");
        for (int[] day : new int[][] {{-1, 0}, {0, 1}, {1, 1}, {999, 1}, {1000, 1}, {1001, 0}}) {
            long fits = day[1] == 1 ? 0 : Check.ARGUMENT;
            due("day " + day[0], fits, () -> x.isAllowed(0, 0, day[0]));
        }
        house("t;m;", 2, 1);
        x.open(1, 2, 1, 0);
        x.enter(1, 0, 0, 0);
        x.enter(1, 1, 1, 1000);
        x.enter(1, 2, 0, 999);
        x.enter(1, 3, 1000, 1000);
        for (int person = 0; person < 4; person++) {
            x.ballot(1, person, 0);
        }
        due("cast today", COUNTS, () -> x.why(0));
        due("allowed from tomorrow", BARRED, () -> x.why(1));
        x.days(1000);
        for (int person = 0; person < 4; person++) {
            x.ballot(1, person, 0);
        }
        due("allowed on the first day", BARRED, () -> x.why(4));
        due("allowed to the last day", COUNTS, () -> x.why(5));
        due("allowed to the last but one", BARRED, () -> x.why(6));
        due("allowed on the last day", COUNTS, () -> x.why(7));

        says("Persons are 0 to 19, rolls 0 to 2.");
        for (int roll = 0; roll < 3; roll++) {
            int one = roll;
            due("first person", 2 * roll, () -> x.enter(one, 0, 10 * one, 10 * one));
            due("last person", 2 * roll + 1, () -> x.enter(one, 19, 10 * one + 5, 10 * one + 5));
        }
        for (int roll = 0; roll < 3; roll++) {
            for (int person = 0; person < 20; person++) {
                int r = roll;
                int p = person;
                due("first day", p == 0 ? 1 : 0, () -> x.isAllowed(r, p, 10 * r));
                due("last day", p == 19 ? 1 : 0, () -> x.isAllowed(r, p, 10 * r + 5));
                due("of another roll", 0, () -> x.isAllowed((r + 1) % 3, p, 10 * r));
            }
        }
        for (int outside : new int[] {-1, 3, LOW, HIGH}) {
            due("roll", Check.INDEX, () -> x.isAllowed(outside, 0, 0));
        }
        for (int outside : new int[] {-1, 20, LOW, HIGH}) {
            due("person", Check.INDEX, () -> x.isAllowed(0, outside, 0));
        }

        says("All that is asked about a count is found by what is told by now.");
        house("t;m;", 3, 1, "12", "2", "1");
        x.close(0);
        tallyIs(0, 0, 2, 1);
        bothWinners("at first", 2);
        x.misread(0);
        tallyIs(0, 0, 1, 2);
        bothWinners("misread", 4);
        x.strike(1);
        tallyIs(0, 0, 1, 1);
        bothWinners("struck", 2);
        tiesAre(6);
        x.recount(0);
        tallyIs(0, 0, 2, 0);
        tiesAre();
        x.enter(0, 1, 0, 0);
        tallyIs(0, 0, 2, 1);
        x.mendTo(0, "a;t;x;h;r;");
        talliesAre(2);
        tallyIs(0, 0, 2, 2);
        bothWinners("mended", 2);

        says("An entry is of a person, on a roll, from a day to a day, both counted; entries are numbered"
                + " from 0, up to 60.");
        x.enter(1, 6, 500, 501);
        x.enter(1, 7, 700, 700);
        int[][] days = {{6, 499, 0}, {6, 500, 1}, {6, 501, 1}, {6, 502, 0}, {7, 699, 0}, {7, 700, 1}, {7, 701, 0}};
        for (int[] day : days) {
            due("person " + day[0] + ", day " + day[1], day[2], () -> x.isAllowed(1, day[0], day[1]));
        }
        for (int entry = 2; entry < 60; entry++) {
            int number = entry;
            due("entry " + number, number, () -> x.enter(0, 1, number, number));
        }
        due("no entry 60 is made", Check.STATE, () -> x.enter(0, 1, 60, 60));
        due("no entry 60 is there", Check.INDEX, () -> x.strike(60));
        due("the last one holds", 1, () -> x.isAllowed(0, 1, 59));
        due("the last one is struck", 0, () -> x.strike(59));
        due("it holds no more", 0, () -> x.isAllowed(0, 1, 59));
        due("the one ahead of it holds", 1, () -> x.isAllowed(0, 1, 58));
        due("the refused one doesn't", 0, () -> x.isAllowed(0, 1, 60));

        says("It may be struck, for good; it is as if it had never been made then.");
        x.enter(2, 5, 0, 9);
        x.strike(0);
        due("it holds no more", 0, () -> x.isAllowed(2, 5, 0));
        due("struck for good", Check.STATE, () -> x.strike(0));
        due("entered again, by another number", 1, () -> x.enter(2, 5, 0, 9));
        due("allowed again", 1, () -> x.isAllowed(2, 5, 9));
        due("still struck", Check.STATE, () -> x.strike(0));
        due("the new one may be struck", 0, () -> x.strike(1));
        for (int entry = 2; entry < 60; entry++) {
            x.enter(0, 0, 0, 0);
        }
        due("its number is not given again", Check.STATE, () -> x.enter(2, 5, 0, 9));

        says("A person is allowed on a roll on a day if an entry of it on this roll that is not struck has"
                + " this day.");
        due("no entry", 0, () -> x.isAllowed(0, 3, 7));
        x.enter(0, 3, 5, 7);
        x.enter(0, 3, 9, 11);
        x.enter(0, 3, 7, 7);
        int[][] gap = {{4, 0}, {5, 1}, {7, 1}, {8, 0}, {9, 1}, {11, 1}, {12, 0}};
        for (int[] day : gap) {
            due("day " + day[0], day[1], () -> x.isAllowed(0, 3, day[0]));
        }
        due("another roll", 0, () -> x.isAllowed(1, 3, 7));
        due("another person", 0, () -> x.isAllowed(0, 4, 7));
        x.strike(0);
        due("by the one that is left", 1, () -> x.isAllowed(0, 3, 7));
        due("by none that is left", 0, () -> x.isAllowed(0, 3, 6));
        x.strike(2);
        due("all that had it are struck", 0, () -> x.isAllowed(0, 3, 7));
    }

    // ---- votes and ballots

    private void votesAndBallots() {
        says("Votes are numbered from 0, up to 8.");
        x.ruleOf("r;");
        due("no vote", Check.INDEX, () -> x.winners(0));
        for (int vote = 0; vote < 8; vote++) {
            int number = vote;
            due("vote " + number, number, () -> x.open(number % 3, 6, 1 + number % 5, 0));
            due("not yet there", Check.INDEX, () -> x.winners(number + 1));
        }
        due("no vote 8", Check.STATE, () -> x.open(0, 6, 1, 0));
        for (int vote = 0; vote < 8; vote++) {
            int number = vote;
            due("its seats", (1 << 1 + number % 5) - 1, () -> x.winners(number));
        }

        says("A vote has a roll, candidates numbered from 0, 2 to 6 of them, some seats, fewer than candidates,"
                + " and a rule.");
        for (int candidates = -1; candidates <= 8; candidates++) {
            for (int seats = -1; seats <= 8; seats++) {
                int c = candidates;
                int s = seats;
                boolean fits = c >= 2 && c <= 6 && s >= 1 && s < c;
                x = new House();
                x.ruleOf("h;t;r;");
                due(c + " candidates, " + s + " seats", fits ? 0 : Check.ARGUMENT, () -> x.open(0, c, s, 0));
                if (fits) {
                    bothWinners("the highest of them", (1 << c) - (1 << c - s));
                    due("the last candidate", 0, () -> x.votes(0, 0, c - 1));
                    due("none behind it", Check.INDEX, () -> x.votes(0, 0, c));
                }
            }
        }
        x = new House();
        for (int rule = 0; rule < 8; rule++) {
            x.ruleOf(rule == 7 ? "h;m;" : "m;");
        }
        x.open(2, 6, 1, 7);
        bothWinners("the last rule", 32);
        x.enter(2, 0, 0, 0);
        x.ballot(0, 0, 5);
        due("the last roll", COUNTS, () -> x.why(0));

        says("It is open at first, and may be closed.");
        house("t;m;", 3, 1, "2");
        due("a ballot is cast", 1, () -> x.ballot(0, 1, 1));
        due("winners of an open one", 2, () -> x.winners(0));
        due("not certified while it is open", Check.STATE, () -> x.certify(0));
        due("closed", 2, () -> x.close(0));
        due("no ballot then", Check.STATE, () -> x.ballot(0, 2, 1));
        due("closed once", Check.STATE, () -> x.close(0));
        due("winners of a closed one", 2, () -> x.winners(0));

        says("Ballots are numbered from 0, up to 100.");
        house("t;m;", 2, 1);
        for (int vote = 1; vote < 8; vote++) {
            x.open(0, 2, 1, 0);
        }
        due("no ballot", Check.INDEX, () -> x.why(0));
        for (int ballot = 0; ballot < 100; ballot++) {
            int number = ballot;
            due("ballot " + number, number, () -> x.ballot(number % 8, number % 20, number / 50));
        }
        for (int vote = 0; vote < 8; vote++) {
            int one = vote;
            due("no ballot 100, of vote " + one, Check.STATE, () -> {
                if (one == 0) {
                    x.mark(1);
                }
                return x.cast(one, one);
            });
        }
        due("no ballot 100 is there", Check.INDEX, () -> x.read(100, 0));
        due("the last one", 1, () -> x.read(99, 0));
        due("the first one", 0, () -> x.read(0, 0));

        says("A ballot is of a person, for a vote, of the day on which it was cast, and has candidates in an"
                + " order, each once at most, and at least one.");
        house("t;m;", 6, 1);
        due("none is marked", Check.STATE, () -> x.cast(0, 0));
        x.mark(5);
        due("once at most", Check.STATE, () -> x.mark(5));
        due("one", 0, () -> x.cast(0, 0));
        due("none is marked any more", Check.STATE, () -> x.cast(0, 0));
        due("all", 1, () -> x.ballot(0, 1, 3, 5, 0, 4, 1, 2));
        for (int place = 0; place < 6; place++) {
            int one = place;
            due("of one, place " + one, one == 0 ? 5 : NONE, () -> x.read(0, one));
            due("of all, place " + one, "350412".charAt(one) - '0', () -> x.read(1, one));
        }

        says("Of several ballots of a person for a vote the latest one alone may count.");
        house("t;m;", 3, 1, "0", "0");
        x.open(0, 3, 1, 0);
        x.ballot(1, 0, 1);
        due("the only one", COUNTS, () -> x.why(0));
        x.ballot(0, 0, 2);
        due("the earlier one", LATER, () -> x.why(0));
        due("of another person", COUNTS, () -> x.why(1));
        due("for another vote", COUNTS, () -> x.why(2));
        due("the latest one", COUNTS, () -> x.why(3));
        x.ballot(0, 0, 1);
        due("the earliest of three", LATER, () -> x.why(0));
        due("the middle one of three", LATER, () -> x.why(3));
        due("the latest of three", COUNTS, () -> x.why(4));
        tallyIs(0, 1, 1, 0);
        x.strike(0);
        due("barred, and still the latest", BARRED, () -> x.why(4));
        due("no other one counts instead", LATER, () -> x.why(3));
        tallyIs(0, 1, 0, 0);

        says("A ballot that may counts if its person is allowed, on the roll of the vote, on the day of the"
                + " ballot.");
        x.ruleOf("t;m;");
        x.open(1, 2, 1, 0);
        x.enter(1, 0, 3, 5);
        x.enter(0, 1, 0, 9);
        x.pass(2);
        for (int day = 2; day <= 6; day++) {
            int ballot = day - 2;
            x.ballot(0, 0, 0);
            due("of day " + day, day < 3 || day > 5 ? BARRED : COUNTS, () -> x.why(ballot));
            x.pass(1);
        }
        x.ballot(0, 1, 0);
        due("on another roll alone", BARRED, () -> x.why(5));
        x.enter(1, 1, 8, 9);
        due("on the day behind it", BARRED, () -> x.why(5));
        x.enter(1, 1, 0, 6);
        due("on the day ahead of it", BARRED, () -> x.why(5));
        x.enter(1, 1, 7, 7);
        due("on its day, entered later", COUNTS, () -> x.why(5));

        says("The machine may misread a ballot: then it has its first and its second candidate in each other's"
                + " place, until that is put right.");
        house("t;m;", 6, 1, "01", "015234", "3");
        x.misread(0);
        x.misread(1);
        due("one alone", Check.STATE, () -> x.misread(2));
        for (int place = 0; place < 6; place++) {
            int one = place;
            due("of two, place " + one, one < 2 ? 1 - one : NONE, () -> x.read(0, one));
            due("of six, place " + one, "105234".charAt(one) - '0', () -> x.read(1, one));
        }
        due("put right", 2, () -> x.recount(0));
        due("the first", 0, () -> x.read(0, 0));
        due("the second", 1, () -> x.read(0, 1));
        due("misread again", 0, () -> x.misread(0));
        due("the first", 1, () -> x.read(0, 0));

        says("Counts go by the orders as they are read.");
        house("t;b;a;t;m;", 3, 1, "12", "120");
        x.misread(0);
        tallyIs(0, 0, 1, 1);
        tallyIs(1, 1, 5, 5);
        tallyIs(2, 1, 2, 2);
        x.misread(1);
        tallyIs(0, 0, 0, 2);
        tallyIs(1, 1, 4, 6);
        bothWinners("both misread", 4);
        x.recount(0);
        bothWinners("put right", 2);
    }

    // ---- rules

    private void texts() {
        says("A rule is a text that is typed letter by letter.");
        faultIs(NONE, "t;t;t;t;t;t;t;t;t;t;t;m;");
        due("24 letters", 24, () -> x.wipe());
        faultIs(0, "");

        says("It is a row of one statement or more.");
        faultIs(0, "");
        faultIs(NONE, "t;");
        faultIs(NONE, "t;b;");
        faultIs(NONE, "(t;)(b;)");
        faultIs(NONE, "(t;)b;");
        faultIs(NONE, "t;(b;)");

        says("A statement is a command and a semicolon; or an opening bracket, a row of one statement or more,"
                + " and a closing bracket.");
        faultIs(0, ";");
        faultIs(0, ")");
        faultIs(1, "t");
        faultIs(1, "tt;");
        faultIs(1, "t)");
        faultIs(1, "t(");
        faultIs(2, "t;;");
        faultIs(2, "t;)");
        faultIs(1, "(");
        faultIs(1, "()");
        faultIs(1, "(;)");
        faultIs(2, "((");
        faultIs(2, "(()t;)");
        faultIs(3, "(t;");
        faultIs(2, "(t)");
        faultIs(NONE, "(t;)");
        faultIs(4, "(t;);");
        faultIs(4, "(t;))");
        faultIs(NONE, "(t;b;)");
        faultIs(NONE, "((t;)b;)");
        faultIs(NONE, "(t;(b;))");
        faultIs(4, "(t;()b;)");
        faultIs(NONE, "(((((((((((t;)))))))))))");

        says("A command is one of the letters t b a m x r l h q; or the letter e and a number of one or two"
                + " figures.");
        for (char letter = 'a'; letter <= 'z'; letter++) {
            boolean fits = COMMANDS.indexOf(letter) >= 0;
            faultIs(fits ? NONE : letter == 'e' ? 1 : 0, letter + ";");
            faultIs(fits ? 1 : letter == 'e' ? NONE : 0, letter + "7;");
            faultIs(fits ? NONE : letter == 'e' ? 5 : 4, "(t;)" + letter + ";");
        }
        for (int figure = 0; figure <= 9; figure++) {
            faultIs(0, figure + ";");
            faultIs(NONE, "e" + figure + ";");
            faultIs(NONE, "e" + figure + (9 - figure) + ";");
            faultIs(3, "e" + figure + "0" + figure + ";");
            faultIs(2, "t;" + figure);
        }
        faultIs(1, "e");
        faultIs(2, "e1");
        faultIs(3, "e12");
        faultIs(1, "ee1;");
        faultIs(2, "e1e1;");
        faultIs(2, "e1)");
        faultIs(3, "e12(");

        says("The fault of a text is the place, from 0 on, of the first letter with which no rule, however long,"
                + " could go on there; its length, if it is only too short; NONE if it is a rule.");
        faultIs(0, "z");
        faultIs(0, "zt;");
        faultIs(0, ")))");
        faultIs(2, "t;z;t;");
        faultIs(23, "t;t;t;t;t;t;t;t;t;t;t;tt");
        faultIs(23, "t;t;t;t;t;t;t;t;t;t;t;m)");
        faultIs(22, "t;t;t;t;t;t;t;t;t;t;t;)t");
        faultIs(24, "((((((((((((((((((((((((");
        faultIs(24, "((((((((((((t;))))))))))");
        faultIs(24, "t;t;t;t;t;t;t;t;t;t;t;e1");
        faultIs(24, "e5;t;t;t;t;t;t;t;t;t;e12");
    }

    // ---- answers of rolls and days

    private void answersOfRolls() {
        says("- `to`: from to 1000");
        due("the first day", 0, () -> x.enter(0, 0, 0, 0));
        due("the last day", 1, () -> x.enter(0, 0, 1000, 1000));
        due("all days", 2, () -> x.enter(0, 1, 0, 1000));
        for (int day : new int[] {0, 1, 500, 999, 1000}) {
            x = new House();
            due("one day", 0, () -> x.enter(1, 2, day, day));
            due("ahead of it", Check.ARGUMENT, () -> x.enter(1, 2, day, day - 1));
            due("allowed then", 1, () -> x.isAllowed(1, 2, day));
        }

        says("Returns how many ballots, of all votes, do not count by that.");
        x.ruleOf("m;");
        for (int vote = 0; vote < 8; vote++) {
            x.open(vote == 7 ? 1 : 0, 2, 1, 0);
        }
        x.enter(0, 0, 0, 0);
        x.enter(0, 0, 1, 2);
        x.enter(1, 0, 0, 9);
        due("no ballot", 0, () -> x.strike(0));
        x.enter(0, 0, 0, 0);
        for (int vote = 0; vote < 8; vote++) {
            x.ballot(vote, 0, 1);
        }
        due("another day", 0, () -> x.strike(1));
        due("of the seven votes of the roll", 7, () -> x.strike(3));
        due("of the eighth vote", 1, () -> x.strike(2));
        x.enter(0, 0, 0, 0);
        x.enter(0, 0, 0, 9);
        due("the other one has the day", 0, () -> x.strike(4));
        x.ballot(0, 0, 0);
        due("those with a later one did not count", 7, () -> x.strike(5));
        x.enter(0, 1, 0, 0);
        x.pass(1);
        x.enter(0, 0, 1, 1);
        due("those of an earlier day did not count", 0, () -> x.strike(7));
        x.ballot(0, 1, 0);
        due("its later one is barred already", 0, () -> x.strike(6));

        says("- `days`: 1 to 100");
        due("one", 1, () -> x.pass(1));
        due("a hundred", 101, () -> x.pass(100));
        due("none", Check.ARGUMENT, () -> x.pass(0));
        due("a hundred and one", Check.ARGUMENT, () -> x.pass(101));
        due("today then", 103, () -> x.pass(2));

        says("Throws `IllegalStateException` if today would be behind 1000");
        x.days(901);
        due("1001", Check.STATE, () -> x.pass(100));
        due("1000", 1000, () -> x.pass(99));
        due("1001, by one", Check.STATE, () -> x.pass(1));
        due("1100", Check.STATE, () -> x.pass(100));
        x = new House();
        x.days(900);
        due("1000, by a hundred", 1000, () -> x.pass(100));
    }

    // ---- answers of rules

    private void answersOfRules() {
        says("- `letter`: a to z, 0 to 9, a semicolon or a bracket ( or )");
        String letters = "abcdefghijklmnopqrstuvwxyz0123456789;()";
        for (int sign = 0; sign < 65536; sign++) {
            char letter = (char) sign;
            if (sign % 250 == 0) {
                x = new House();
            }
            boolean fits = letters.indexOf(letter) >= 0;
            due("letter " + sign, fits ? 1 : Check.ARGUMENT, () -> x.type(letter));
            if (fits) {
                x.wipe();
            }
        }

        says("Throws `IllegalStateException` if it has 24 letters");
        for (int many = 1; many <= 24; many++) {
            int one = many;
            due("letter " + one, one, () -> x.type(letters.charAt(one + 14)));
        }
        due("25th", Check.STATE, () -> x.type('t'));
        due("24 letters still", 24, () -> x.wipe());
        due("the first one again", 1, () -> x.type('t'));

        says("Returns how many letters it had.");
        due("none", 0, () -> x.wipe());
        x.type('m');
        due("one", 1, () -> x.wipe());
        due("none then", 0, () -> x.wipe());

        says("Enters the text as a rule; the text stays.");
        due("first", 0, () -> x.ruleOf("m;"));
        due("the text has it", 3, () -> x.type('x'));
        due("then no rule", Check.ARGUMENT, () -> x.rule());
        due("a longer text", 4, () -> x.type(';'));
        due("second", 1, () -> x.rule());
        due("its commands", 2, () -> x.commands(1));
        due("the first keeps its own", 1, () -> x.commands(0));

        says("Returns the number of the rule, from 0 on.");
        x.text("r;");
        for (int rule = 0; rule < 8; rule++) {
            int number = rule;
            due("not yet there", Check.INDEX, () -> x.commands(number));
            due("rule " + number, number, () -> x.rule());
            due("there", 1, () -> x.commands(number));
        }
        due("no rule 8 is made", Check.STATE, () -> x.rule());
        due("no rule 8 is there", Check.INDEX, () -> x.commands(8));

        says("Mends a rule: it is the text from then on, for all votes that have it.");
        house("m;", 3, 2);
        due("another one", 1, () -> x.ruleOf("m;"));
        x.open(0, 3, 2, 1);
        x.open(0, 3, 2, 0);
        due("two votes", 2, () -> x.mendTo(0, "h;r;"));
        due("it stays so when the text is wiped", 4, () -> x.wipe());
        bothWinners("the first vote", 6);
        due("the vote of the other rule", 1, () -> x.winners(1));
        due("the third vote", 6, () -> x.winners(2));
        due("its commands", 2, () -> x.commands(0));
        due("opened later", 3, () -> x.open(0, 2, 1, 0));
        due("by the mended rule", 2, () -> x.winners(3));

        says("Returns how many votes have other winners by that.");
        house("m;", 6, 1);
        due("the same text", 0, () -> x.mend(0));
        for (int vote = 1; vote < 8; vote++) {
            x.open(0, 6, 1, 0);
        }
        due("the same text, all votes", 0, () -> x.mend(0));
        due("another text, the same winners", 0, () -> x.mendTo(0, "t;m;"));
        due("all eight", 8, () -> x.mendTo(0, "h;m;"));
        x.ballot(7, 0, 5);
        due("all but the one with a ballot", 7, () -> x.mendTo(0, "t;m;"));
        due("none elected, in all", 8, () -> x.mendTo(0, "l;"));
        due("some elected, in one", 1, () -> x.mendTo(0, "t;e0;"));
        x = new House();
        x.ruleOf("m;");
        due("no vote", 0, () -> x.mendTo(0, "h;m;"));

        says("Returns how many commands a rule has.");
        Object[][] many = {{"t;", 1}, {"(((((((((((t;)))))))))))", 1}, {"t;t;t;t;t;t;t;t;t;t;t;t;", 12},
            {"e1;e1;e1;e1;e1;e1;e1;e1;", 8}, {"e11;e11;e11;e11;e11;e11;", 6}, {"(t;)(e1;)(m;)", 3}};
        for (int rule = 0; rule < many.length; rule++) {
            int number = x.ruleOf((String) many[rule][0]);
            due("of " + many[rule][0], (Integer) many[rule][1], () -> x.commands(number));
        }
    }

    // ---- answers of votes and ballots

    private void answersOfBallots() {
        says("Returns how many ballots count.");
        house("t;m;", 2, 1);
        x.open(0, 2, 1, 0);
        x.open(1, 2, 1, 0);
        x.open(0, 2, 1, 0);
        for (int person = 0; person < 20; person++) {
            x.ballot(1, person, 0);
            x.ballot(2, person, 0);
        }
        x.ballot(3, 1, 0);
        x.ballot(3, 1, 0);
        due("no ballot", 0, () -> x.close(0));
        due("of all persons", 20, () -> x.close(1));
        due("none is allowed", 0, () -> x.close(2));
        due("one has a later one", 1, () -> x.close(3));

        says("Returns how many are marked then.");
        for (int candidate = 5; candidate >= 0; candidate--) {
            int one = candidate;
            due("candidate " + one, 6 - one, () -> x.mark(one));
            due("marked already", Check.STATE, () -> x.mark(one));
        }

        says("Casts a ballot with the candidates that are marked, in their order; none are marked then.");
        house("t;m;", 4, 1);
        x.mark(3);
        x.mark(0);
        due("no person", Check.INDEX, () -> x.cast(0, 20));
        due("still marked", 3, () -> x.mark(2));
        due("cast", 0, () -> x.cast(0, 0));
        due("first", 3, () -> x.read(0, 0));
        due("second", 0, () -> x.read(0, 1));
        due("third", 2, () -> x.read(0, 2));
        due("no fourth", NONE, () -> x.read(0, 3));
        due("none are marked then", 1, () -> x.mark(3));

        says("Throws `IllegalStateException` if the vote is closed, none is marked, one that is marked is no"
                + " candidate of the vote, or there are 100 ballots");
        for (int candidates = 2; candidates <= 6; candidates++) {
            int many = candidates;
            house("t;m;", many, 1);
            due("the last candidate", 0, () -> x.ballot(0, 0, many - 1));
            if (many < 6) {
                due("the one behind it", Check.STATE, () -> x.ballot(0, 0, 0, many, 1));
                due("no ballot by that", Check.INDEX, () -> x.why(1));
            }
        }

        says("Returns COUNTS, LATER or BARRED; LATER ahead of BARRED.");
        house("t;m;", 2, 1, "0", "1");
        x.strike(1);
        due("counts", COUNTS, () -> x.why(0));
        due("barred", BARRED, () -> x.why(1));
        x.ballot(0, 1, 1);
        due("later ahead of barred", LATER, () -> x.why(1));
        due("the later one is barred", BARRED, () -> x.why(2));

        says("Returns the candidate; NONE if there are not so many.");
        house("t;m;", 6, 1, "5", "54", "543", "5432", "54321", "543210");
        for (int ballot = 0; ballot < 6; ballot++) {
            for (int place = 0; place < 6; place++) {
                int b = ballot;
                int p = place;
                due("ballot " + b + ", place " + p, p <= b ? 5 - p : NONE, () -> x.read(b, p));
            }
        }
        due("the place behind all", Check.INDEX, () -> x.read(5, 6));
        due("the place ahead of all", Check.INDEX, () -> x.read(0, -1));

        says("Throws `IllegalStateException` if it is misread, or has one candidate alone");
        house("t;m;", 6, 1, "5", "54", "543", "543210");
        due("one alone", Check.STATE, () -> x.misread(0));
        for (int ballot = 1; ballot < 4; ballot++) {
            int one = ballot;
            due("of several", 0, () -> x.misread(one));
            due("misread already", Check.STATE, () -> x.misread(one));
            due("misread still", 4, () -> x.read(one, 0));
        }
    }

    // ---- answers of the recount desk

    /** The places that are drawn, told by the document's own words. */
    private static int[] drawn(int seed, int many, int among) {
        int[] places = new int[many];
        long number = seed;
        for (int draw = 0; draw < many; draw++) {
            number = (1103 * number + 12345) % 65536;
            places[draw] = (int) (number % among);
        }
        return places;
    }

    private static int differentOf(int[] places) {
        return (int) java.util.Arrays.stream(places).distinct().count();
    }

    private static boolean has(int[] places, int place) {
        return java.util.Arrays.stream(places).anyMatch(one -> one == place);
    }

    // Vote 0 has ballots that count in between those that don't, and all of them are misread.
    private void misreadHouse(int among) {
        house("t;m;", 2, 1);
        x.open(1, 2, 1, 0);
        for (int person = 0; person < among; person++) {
            x.ballot(1, person, 0, 1);
            x.ballot(0, person, 0, 1);
            x.misread(2 * person + 1);
        }
    }

    private void answersOfTheDesk() {
        says("The first number is the seed; for each draw the number becomes 1103 times itself, and 12345,"
                + " together, of which the remainder by 65536; the ballot that is drawn is that whose place, from 0"
                + " on, among those that count, by rising numbers, is the remainder of the number by how many there"
                + " are.");
        for (int among : new int[] {1, 2, 3, 7, 19, 20}) {
            for (int seed : new int[] {0, 1, 48, 49, 4242, 9998, 9999}) {
                for (int many : new int[] {1, 2, 19, 20}) {
                    int[] places = drawn(seed, many, among);
                    misreadHouse(among);
                    String what = many + " among " + among + " by " + seed;
                    due(what, differentOf(places), () -> x.sample(0, seed, many));
                    for (int place = 0; place < among; place++) {
                        int ballot = 2 * place + 1;
                        due(what + ", place " + place, has(places, place) ? 0 : 1, () -> x.read(ballot, 0));
                    }
                }
            }
        }

        says("Draws ballots of a vote that count, and looks at them; those that are misread are put right.");
        house("t;m;", 2, 1, "01", "01", "01");
        x.misread(0);
        x.misread(1);
        x.misread(2);
        x.strike(0);
        x.ballot(0, 1, 0, 1);
        x.sample(0, 0, 20);
        due("a barred one is not drawn", 1, () -> x.read(0, 0));
        due("nor one with a later one", 1, () -> x.read(1, 0));
        due("but this one", 0, () -> x.read(2, 0));

        says("A ballot may be drawn several times.");
        misreadHouse(1);
        due("found by the first draw alone", 1, () -> x.sample(0, 5, 20));
        due("all were draws", 5, () -> x.doubt(0));

        says("- `seed`: 0 to 9999");
        house("t;m;", 2, 1, "01");
        due("the first", 0, () -> x.sample(0, 0, 1));
        due("the last", 0, () -> x.sample(0, 9999, 1));
        due("ahead of the first", Check.ARGUMENT, () -> x.sample(0, -1, 1));
        due("behind the last", Check.ARGUMENT, () -> x.sample(0, 10000, 1));

        says("- `many`: 1 to 20: how many draws");
        house("t;m;", 2, 1, "01");
        due("none", Check.ARGUMENT, () -> x.sample(0, 0, 0));
        due("one", 0, () -> x.sample(0, 0, 1));
        due("twenty", 0, () -> x.sample(0, 0, 20));
        due("twenty-one", Check.ARGUMENT, () -> x.sample(0, 0, 21));

        says("Throws `IllegalStateException` if no ballot of it counts");
        house("t;m;", 2, 1);
        due("no ballot", Check.STATE, () -> x.sample(0, 0, 1));
        x.ballot(0, 3, 0, 1);
        x.misread(0);
        x.strike(3);
        due("none that counts", Check.STATE, () -> x.sample(0, 0, 1));
        due("still misread", 1, () -> x.read(0, 0));
        x.enter(0, 3, 0, 0);
        due("one that counts", 1, () -> x.sample(0, 0, 1));
        x.close(0);
        due("of a closed vote", 0, () -> x.sample(0, 0, 1));

        says("Puts all ballots of a vote right, those that do not count, too.");
        house("t;m;", 2, 1);
        x.open(0, 2, 1, 0);
        due("no ballot", 0, () -> x.recount(0));
        for (int ballot = 0; ballot < 100; ballot++) {
            x.ballot(ballot < 99 ? 0 : 1, ballot % 19, 0, 1);
            x.misread(ballot);
        }
        x.strike(18);
        due("all of the vote", 99, () -> x.recount(0));
        due("the first", 0, () -> x.read(0, 0));
        due("the last", 0, () -> x.read(98, 0));
        due("that of the other vote", 1, () -> x.read(99, 0));
        due("none again", 0, () -> x.recount(0));
        due("one", 1, () -> x.recount(1));
        due("the last of all", 0, () -> x.read(99, 0));

        says("Returns the doubt about a vote: of all draws for it so far, 100 times those that found one misread,"
                + " divided by all, rounded down; 0 without draws.");
        house("t;m;", 2, 1, "01");
        x.open(0, 2, 1, 0);
        due("no draws", 0, () -> x.doubt(0));
        x.misread(0);
        x.recount(0);
        due("a recount is no draw", 0, () -> x.doubt(0));
        x.misread(0);
        x.sample(0, 0, 1);
        due("one of one", 100, () -> x.doubt(0));
        x.sample(0, 0, 1);
        due("one of two", 50, () -> x.doubt(0));
        x.sample(0, 0, 1);
        due("one of three", 33, () -> x.doubt(0));
        x.sample(0, 0, 17);
        for (int twenty = 0; twenty < 4; twenty++) {
            x.sample(0, 0, 20);
        }
        due("one of a hundred", 1, () -> x.doubt(0));
        due("a refused one is no draw", Check.ARGUMENT, () -> x.sample(0, 0, 21));
        due("one of a hundred", 1, () -> x.doubt(0));
        x.sample(0, 0, 1);
        due("one of a hundred and one", 0, () -> x.doubt(0));
        due("of another vote", 0, () -> x.doubt(1));
        house("t;m;", 2, 1, "01");
        for (int draw = 0; draw < 199; draw++) {
            x.misread(0);
            x.sample(0, draw, 1);
        }
        due("all of 199", 100, () -> x.doubt(0));
        x.sample(0, 0, 1);
        due("all but one of 200", 99, () -> x.doubt(0));
        due("no vote", Check.INDEX, () -> x.doubt(1));
    }

    // ---- answers of counts

    private void answersOfCounts() {
        says("Returns the winners of a vote, open or closed: all that are elected, as a set: the bit c for the"
                + " candidate c.");
        for (int candidate = 0; candidate < 6; candidate++) {
            house("t;m;", 6, 1, String.valueOf(candidate));
            bothWinners("candidate " + candidate, 1 << candidate);
            x.close(0);
            bothWinners("candidate " + candidate + ", closed", 1 << candidate);
        }
        house("t;", 6, 1, "0");
        bothWinners("nobody", 0);
        house("t;r;", 6, 5, "5", "4", "3", "2", "1");
        bothWinners("all but the first", 62);

        says("Returns the same, by hand: the rule is read letter by letter while it is counted, and each vote of"
                + " each tally is found by going through the ballots anew.");
        house("t;m;", 6, 1, "5");
        x.open(0, 2, 1, 0);
        due("by hand alone", 32, () -> x.winnersByHand(0));
        due("of another vote, without ballots", 1, () -> x.winnersByHand(1));
        x.ballot(1, 0, 1);
        due("with the ballot that was cast then", 2, () -> x.winnersByHand(1));
        x.strike(0);
        due("without the one that is barred", 1, () -> x.winnersByHand(0));
        x.mendTo(0, "h;r;");
        due("by the mended rule", 32, () -> x.winnersByHand(0));

        says("Returns how many tallies the count of a vote has.");
        house("m;", 6, 1);
        talliesAre(0);
        house("t;t;t;t;t;t;t;t;t;t;t;t;", 6, 1);
        talliesAre(12);
        house("(t;t;t;t;t;t;t;t;t;t;x;)", 6, 1);
        talliesAre(60);
        due("the last votes", 0, () -> x.votes(0, 59, 5));

        says("Returns the votes; NONE if it did not stand then.");
        house("t;e50;b;", 3, 2, "1", "1", "10");
        tallyIs(0, 0, 3, 0);
        tallyIs(1, 2, NONE, 0);
        due("ahead of the first tally", Check.INDEX, () -> x.votes(0, -1, 0));
        due("behind the last tally", Check.INDEX, () -> x.votes(0, 2, 0));
        due("ahead of the first candidate", Check.INDEX, () -> x.votes(0, 0, -1));
        due("behind the last candidate", Check.INDEX, () -> x.votes(0, 0, 3));

        says("Returns how many ties the count of a vote has.");
        house("r;", 6, 5);
        tiesAre(63, 62, 60, 56, 48);
        house("h;r;", 6, 5);
        tiesAre(63, 31, 15, 7, 3);
        house("t;r;", 2, 1, "1");
        tiesAre();

        says("Certifies the winners of a closed vote as they are now, in place of those that were certified.");
        house("t;m;", 3, 1, "2");
        due("open", Check.STATE, () -> x.certify(0));
        x.close(0);
        due("as they are now", 4, () -> x.certify(0));
        x.strike(0);
        due("certified before", 4, () -> x.certified(0));
        due("stale", 1, () -> x.stale());
        due("in place of those", 1, () -> x.certify(0));
        due("certified now", 1, () -> x.certified(0));
        due("not stale", 0, () -> x.stale());

        says("Returns the set; NONE if none were.");
        house("l;", 2, 1);
        due("none", NONE, () -> x.certified(0));
        x.close(0);
        due("none, closed", NONE, () -> x.certified(0));
        due("nobody", 0, () -> x.certify(0));
        due("the empty set", 0, () -> x.certified(0));

        says("Counts the votes with certified winners that are not those of now.");
        house("l;", 2, 1);
        for (int vote = 1; vote < 8; vote++) {
            x.open(0, 2, 1, 0);
        }
        due("none certified", 0, () -> x.stale());
        for (int vote = 0; vote < 8; vote++) {
            x.close(vote);
            x.certify(vote);
        }
        due("nobody, and nobody now", 0, () -> x.stale());
        x.mendTo(0, "m;");
        due("all eight", 8, () -> x.stale());
        x.certify(7);
        due("all but the last", 7, () -> x.stale());
        x.certify(0);
        due("all but the last and the first", 6, () -> x.stale());
        x.mendTo(0, "l;");
        due("those two", 2, () -> x.stale());
    }
}
