/** Each sentence of the document about counts that names a boundary, by its own words. */
public final class CountTest extends Bench {
    public static void main(String[] args) {
        CountTest test = new CountTest();
        test.standing();
        test.tallyKinds();
        test.weights();
        test.latestTally();
        test.best();
        test.again();
        test.worst();
        test.brackets();
        test.bestAndWorst();
        test.ties();
        test.breaking();
        CHECK.end("CountTest");
    }

    /** The winners of vote 0 by both counts. */
    private void wins(int want, String rule, int candidates, int seats, String... orders) {
        house(rule, candidates, seats, orders);
        bothWinners(rule + " of " + candidates + " for " + seats + " by " + String.join(" ", orders), want);
    }

    // ---- who stands

    private void standing() {
        says("At first all candidates stand, and none is elected; all seats are open.");
        for (int candidates = 2; candidates <= 6; candidates++) {
            house("t;", candidates, candidates - 1);
            tallyIs(0, new int[candidates]);
            bothWinners("none is elected", 0);
            int all = candidates;
            due("none behind them", Check.INDEX, () -> x.votes(0, 0, all));
            wins((1 << candidates - 1) - 1, "r;", candidates, candidates - 1);
        }

        says("A candidate that is elected takes a seat, and stands no more; one that is out stands no more.");
        wins(7, "m;t;m;t;m;t;", 4, 3);
        tallyIs(0, NONE, 0, 0, 0);
        tallyIs(1, NONE, NONE, 0, 0);
        talliesAre(2);
        wins(8, "x;t;x;t;x;t;m;", 4, 1);
        tallyIs(0, NONE, 0, 0, 0);
        tallyIs(1, NONE, NONE, 0, 0);
        tallyIs(2, NONE, NONE, NONE, 0);
        talliesAre(3);
        wins(6, "x;r;", 3, 2);
        wins(2, "t;x;t;x;t;m;", 3, 1, "0", "1", "1", "21");
        tallyIs(1, NONE, 2, 1);
        tallyIs(2, NONE, 3, NONE);

        says("The statements are done one after the other; a count ends with the last one, or at once when no seat"
                + " is open any more.");
        wins(1, "t;m;t;", 3, 1);
        talliesAre(1);
        wins(1, "t;m;t;", 3, 2);
        talliesAre(2);
        wins(3, "t;m;m;t;m;", 3, 2);
        talliesAre(1);
        wins(3, "t;r;b;", 3, 2);
        talliesAre(1);
        wins(3, "t;e0;b;", 3, 2, "0", "1", "2");
        talliesAre(1);
        wins(1, "t;e0;b;", 3, 2, "0");
        talliesAre(2);
        wins(1, "(t;m;b;)a;", 3, 1);
        talliesAre(1);
        wins(3, "((m;)t;)b;", 3, 2);
        talliesAre(0);
        wins(3, "((m;t;)b;)a;", 3, 2);
        talliesAre(1);
        wins(7, "((m;t;)b;)a;", 4, 3);
        talliesAre(2);
        wins(1, "m;(t;)((b;)a;)", 2, 1);
        talliesAre(0);
        wins(0, "x;x;x;t;", 3, 1);
        talliesAre(1);
        wins(1, "m;h;m;", 2, 1);
        wins(5, "m;h;m;", 3, 2);
        wins(0, "l;h;q;", 3, 2);
    }

    // ---- tallies

    private void tallyKinds() {
        says("t, b, a make a tally, in which each candidate that stands gets votes from the ballots that count.");
        house("t;b;a;", 3, 1, "01", "01", "2");
        x.strike(0);
        x.ballot(0, 1, 1);
        tallyIs(0, 0, 1, 1);
        tallyIs(1, 0, 3, 3);
        tallyIs(2, 0, 1, 1);

        says("t: each ballot gives 1 to the first candidate in its order that stands.");
        house("t;x;t;x;t;", 4, 1, "0", "1", "1", "023", "2031", "2", "3", "3", "3", "012");
        // the first two are out: 1 with 2 of 10, then 2 with 2; 0 and 3 are left
        tallyIs(0, 3, 2, 2, 3);
        tallyIs(1, 3, NONE, 2, 3);
        tallyIs(2, 4, NONE, NONE, 3);
        house("m;t;", 3, 2, "0", "01", "012");
        tallyIs(0, NONE, 2, 0);

        says("b: it gives to each candidate in its order that stands as many as stand, less as many of those as are"
                + " ahead of it in its order.");
        house("b;x;b;", 6, 5, "543210");
        tallyIs(0, 1, 2, 3, 4, 5, 6);
        tallyIs(1, NONE, 1, 2, 3, 4, 5);
        house("b;x;b;", 6, 1, "0");
        tallyIs(0, 6, 0, 0, 0, 0, 0);
        tallyIs(1, 5, NONE, 0, 0, 0, 0);
        house("x;b;", 4, 1, "1023", "01", "301", "0");
        tallyIs(0, NONE, 3 + 3 + 2, 2, 1 + 3);
        house("b;", 2, 1, "10", "1", "0");
        tallyIs(0, 3, 4);

        says("a: it gives 1 to each candidate in its order that stands.");
        house("a;x;a;", 6, 5, "543210", "0", "105");
        tallyIs(0, 3, 2, 1, 1, 1, 2);
        tallyIs(1, 3, 2, NONE, 1, 1, 2);
        house("a;", 6, 5);
        tallyIs(0, 0, 0, 0, 0, 0, 0);
    }

    private void weights() {
        says("The weight of a tally is the number of ballots that gave something.");
        // t: 1 2 3 of 6; with 0 out 2 3 of 5
        String[] six = {"0", "1", "1", "2", "2", "2"};
        wins(4, "t;e49;", 3, 1, six);
        wins(0, "t;e50;", 3, 1, six);
        wins(4, "t;x;t;e59;", 3, 1, six);
        wins(0, "t;x;t;e60;", 3, 1, six);
        // b: 9 3 0 of 4, whatever a ballot gave
        String[] four = {"0", "0", "0", "1"};
        wins(3, "b;e74;", 3, 2, four);
        wins(1, "b;e75;", 3, 2, four);
        // b: 4 12 8 8 of 8; with 0 out 9 6 6 of 7
        String[] eight = {"1", "1", "1", "2", "2", "3", "3", "0"};
        wins(6, "b;x;b;e85;", 4, 2, eight);
        wins(2, "b;x;b;e86;", 4, 2, eight);
        // a: 2 2 2 of 3, although 6 were given
        String[] three = {"012", "01", "2"};
        wins(1, "a;e66;", 3, 1, three);
        wins(0, "a;e67;", 3, 1, three);
        // t: 1 2 2 of 5; with 0 out a: 2 2 of 4
        String[] five = {"0", "1", "1", "2", "2"};
        wins(2, "t;x;a;e49;", 3, 1, five);
        wins(0, "t;x;a;e50;", 3, 1, five);
        wins(0, "t;e0;", 3, 1);
    }

    private void latestTally() {
        says("The votes and the weight of the latest tally hold until the next one; those of before the first one"
                + " are 0.");
        wins(1, "m;t;", 3, 1, "2", "2");
        tiesAre(7);
        wins(2, "x;m;t;", 3, 1, "0", "2");
        tiesAre(7, 6);
        wins(0, "e0;", 3, 1, "2", "2");
        tiesAre();
        wins(0, "e1;e99;", 3, 1, "2", "2");
        wins(4, "e0;t;e0;", 3, 1, "2", "2");
        wins(6, "t;m;m;", 3, 2, "2", "2", "1");
        tiesAre();
        // t: 2 1 1; b: 6 7 5
        String[] four = {"01", "01", "12", "2"};
        wins(2, "t;b;m;", 3, 1, four);
        wins(1, "b;t;m;", 3, 1, four);
        // t: 3 2 2; with 1 out 3 4
        String[] seven = {"0", "0", "0", "12", "12", "2", "2"};
        wins(1, "t;x;m;", 3, 1, seven);
        wins(4, "t;x;t;m;", 3, 1, seven);
        // t: 1 2 2 of 5; with 0 out 2 2 of 4
        String[] five = {"0", "1", "1", "2", "2"};
        wins(2, "t;x;e39;", 3, 1, five);
        wins(0, "t;x;e40;", 3, 1, five);
        wins(2, "t;x;t;e49;", 3, 1, five);
        wins(0, "t;x;t;e50;", 3, 1, five);
    }

    // ---- those that are elected or out

    private void best() {
        says("m: the best one of those that stand, if there is one, is elected.");
        wins(1, "m;", 2, 1);
        wins(2, "x;m;", 2, 1);
        wins(32, "x;x;x;x;x;m;", 6, 1);
        wins(31, "m;m;m;m;m;m;", 6, 5);
        wins(4, "t;m;", 3, 2, "2", "2", "1");

        says("e with a number: the best one of those that stand is elected, if 100 times its votes is more than the"
                + " number times the weight; and again, as long as that is so, a seat is open, and some stand.");
        // t: 3 3 1 0 of 7
        String[] seven = {"0", "0", "0", "1", "1", "1", "2"};
        wins(3, "t;e42;", 4, 3, seven);
        wins(0, "t;e43;", 4, 3, seven);
        wins(7, "t;e14;", 4, 3, seven);
        wins(3, "t;e15;", 4, 3, seven);
        wins(7, "t;e0;", 4, 3, seven);
        wins(7, "t;e00;", 4, 3, seven);
        wins(3, "t;e0;", 4, 2, seven);
        wins(1, "t;e0;", 4, 1, seven);
        wins(0, "t;e99;", 4, 1, seven);
        wins(1, "t;e0;", 2, 1, "0", "1");
        wins(1, "t;e66;", 3, 1, "0", "0", "1");
        wins(0, "t;e67;", 3, 1, "0", "0", "1");
        wins(0, "t;e0;", 3, 2);
        // all of 20, and all but one
        String[] twenty = new String[20];
        java.util.Arrays.fill(twenty, "1");
        wins(2, "t;e99;", 3, 1, twenty);
        twenty[19] = "2";
        wins(0, "t;e99;", 3, 1, twenty);
        wins(0, "t;e95;", 3, 1, twenty);
        wins(2, "t;e94;", 3, 1, twenty);
        // a number of two figures whose first is 0: 18 and 2 of 20
        twenty[18] = "2";
        wins(6, "t;e9;", 3, 2, twenty);
        wins(6, "t;e09;", 3, 2, twenty);
        wins(2, "t;e10;", 3, 2, twenty);
        wins(2, "t;e89;", 3, 2, twenty);
        wins(0, "t;e90;", 3, 2, twenty);
    }

    private void again() {
        says("r: the best one of those that stand is elected, again and again, as long as a seat is open and some"
                + " stand.");
        wins(1, "r;", 2, 1);
        wins(31, "r;", 6, 5);
        wins(2, "x;r;", 2, 1);
        wins(3, "m;r;", 4, 2);
        wins(13, "t;r;", 4, 3, "3", "3", "2");
        tiesAre(3);
        wins(31, "r;r;", 6, 5);
    }

    private void worst() {
        says("x: the worst one of those that stand is out, if more of them stand than seats are open.");
        house("x;x;t;", 2, 1);
        tallyIs(0, NONE, 0);
        house("x;x;t;", 6, 5);
        tallyIs(0, NONE, 0, 0, 0, 0, 0);
        house("x;x;x;x;x;x;t;", 6, 1);
        tallyIs(0, NONE, NONE, NONE, NONE, NONE, 0);
        house("m;x;x;t;", 3, 2);
        tallyIs(0, NONE, NONE, 0);
        bothWinners("the second one is out", 1);
        house("x;m;x;t;", 3, 2);
        tallyIs(0, NONE, NONE, 0);
        bothWinners("the first one is out", 2);
        house("t;x;x;t;", 4, 1, "0", "0", "0", "1", "3", "3");
        tallyIs(0, 3, 1, 0, 2);
        tallyIs(1, 3, NONE, NONE, 2);
    }

    private void brackets() {
        says("Brackets: the row in them is done, and again, as long as by the last time at least one candidate was"
                + " elected or out.");
        wins(0, "(t;)", 3, 1);
        talliesAre(1);
        wins(0, "(t;x;)", 3, 1);
        talliesAre(3);
        wins(0, "(t;x;)", 2, 1);
        talliesAre(2);
        wins(7, "(t;m;)", 4, 3);
        talliesAre(3);
        wins(0, "(t;e50;)", 3, 2, "0", "1");
        talliesAre(1);
        wins(3, "(t;e50;)", 3, 2, "0", "0", "1");
        talliesAre(2);
        wins(0, "(t;x;x;)", 4, 1);
        talliesAre(3);
        wins(0, "((t;x;)b;)", 4, 1);
        talliesAre(7);
        wins(0, "((t;)x;)", 3, 1);
        talliesAre(3);
        wins(0, "(t;(x;))", 3, 1);
        talliesAre(2);
        wins(0, "(x;)(t;)", 3, 1);
        talliesAre(1);
        wins(0, "(t;)(t;)", 3, 1);
        talliesAre(2);
        wins(1, "m;(t;)", 3, 2);
        talliesAre(1);
        wins(4, "(x;)m;", 3, 1);
        wins(4, "((x;)m;)", 3, 1);
        wins(6, "(x;(m;))", 3, 2);
        // nothing is done again once nobody was elected or out, although e would elect by then
        wins(0, "(e0;t;)", 3, 1, "1");
        talliesAre(1);
        wins(2, "(e0;t;)e0;", 3, 1, "1");
        wins(2, "(x;e0;t;)", 3, 1, "1");
        wins(3, "(m;)t;", 3, 2);
        talliesAre(0);
        wins(0, "(h;)t;", 3, 2);
        talliesAre(1);
        wins(31, "(((((((((((m;)))))))))))", 6, 5);
        // six times the innermost row, and once more for each of the nine brackets round it
        wins(0, "((((((((((t;x;))))))))))", 6, 1);
        talliesAre(15);
    }

    // ---- the best, the worst and the tied

    private void bestAndWorst() {
        says("The best one has the most votes of those that stand, the worst one the fewest.");
        // t: 3 1 0 2
        String[] six = {"0", "0", "0", "3", "3", "1"};
        wins(1, "t;m;", 4, 3, six);
        wins(9, "t;m;m;", 4, 3, six);
        wins(11, "t;m;m;m;", 4, 3, six);
        wins(9, "t;x;x;r;", 4, 2, six);
        wins(1, "t;x;x;x;m;", 4, 1, six);
        tiesAre();
    }

    private void ties() {
        says("If several have as many when one of them is elected, or out, by that, it is a tie, which is told, and"
                + " broken (with e nothing is told where nobody is elected)");
        wins(4, "t;m;", 4, 1, "0", "1", "2", "2");
        tiesAre();
        wins(2, "t;m;", 4, 1, "1", "3");
        tiesAre(10);
        wins(0, "t;x;", 4, 1, "1", "3");
        tiesAre(5);
        wins(0, "t;x;", 4, 1, "1", "3", "2");
        tiesAre();
        wins(0, "x;x;", 3, 2);
        tiesAre(7);
        wins(2, "x;m;", 2, 1);
        tiesAre(3);
        wins(0, "t;e50;", 3, 2, "0", "1");
        tiesAre();
        wins(3, "t;e49;", 3, 2, "0", "1");
        tiesAre(3);
        wins(3, "t;r;", 3, 2, "0", "1");
        tiesAre(3);
        wins(3, "t;e0;", 4, 3, "0", "1");
        tiesAre(3);
        wins(7, "t;r;", 4, 3, "0", "1");
        tiesAre(3, 12);
    }

    private void breaking() {
        says("l, h, q: ties are broken so from then on; as by l at first.");
        wins(1, "m;", 4, 3);
        wins(8, "h;m;", 4, 3);
        wins(1, "q;m;", 4, 3);
        wins(9, "m;h;m;", 4, 3);
        wins(9, "h;m;l;m;", 4, 3);
        wins(49, "h;m;q;m;h;m;", 6, 5);
        wins(12, "(h;m;)", 4, 2);
        wins(6, "x;h;x;r;", 4, 2);

        says("by l it is the lowest of them; by h the highest; by q the tallies ahead of the latest one are gone"
                + " through, the later ones first: in each, of those who are still left, only those stay that have"
                + " the most votes in it (for the worst one: the fewest); when one is left it is that one, otherwise"
                + " in the end the lowest of those who are left.");
        wins(2, "t;m;", 4, 1, "3", "1");
        wins(8, "h;t;m;", 4, 1, "3", "1");
        wins(2, "q;t;m;", 4, 1, "3", "1");
        tiesAre(10);
        // t: 2 2 1 1 1 0; a: 3 4 ..; b: 17 16 ..
        String[] seven = {"1", "1", "0", "0", "23451", "32451", "40"};
        wins(2, "q;b;a;t;m;", 6, 1, seven);
        wins(1, "q;a;b;t;m;", 6, 1, seven);
        wins(1, "b;a;t;m;", 6, 1, seven);
        // the same with 0 and 1 in each other's place
        String[] other = {"0", "0", "1", "1", "23450", "32450", "41"};
        wins(1, "q;b;a;t;m;", 6, 1, other);
        wins(2, "q;a;b;t;m;", 6, 1, other);
        wins(1, "a;b;t;m;", 6, 1, other);
        // t: 3 3 3 2 2 1; a: 5 6 6 ..; b: 28 24 27 ..
        String[] many = {"0", "0", "0", "1", "1", "1", "2", "2", "2", "30", "40", "34521", "43521", "53421"};
        wins(4, "q;b;a;t;m;", 6, 1, many);
        tiesAre(7);
        wins(1, "q;a;b;t;m;", 6, 1, many);
        wins(2, "q;a;t;m;", 6, 1, many);
        wins(2, "q;a;a;t;t;m;", 6, 1, many);
        wins(1, "q;t;b;m;", 6, 1, many);
        // t: 1 1 1 1; a: 2 1 2 1
        String[] four = {"10", "0", "32", "2"};
        house("q;a;t;x;t;", 4, 1, four);
        tallyIs(2, 2, NONE, 1, 1);
        tiesAre(15);
        house("h;a;t;x;t;", 4, 1, four);
        tallyIs(2, 1, 1, 2, NONE);
        house("l;a;t;x;t;", 4, 1, four);
        tallyIs(2, NONE, 1, 1, 1);
        // 1 is out; then t: 2 . 1 1 and a: 2 . 2 1, so that 3 is out, and 0 and 2 are elected
        wins(5, "q;a;t;x;t;a;x;r;", 4, 2, "10", "0", "32", "2");
    }
}
