import java.io.IOException;
import java.lang.reflect.Method;
import java.lang.reflect.Modifier;
import java.nio.file.Files;
import java.nio.file.Path;
import java.util.ArrayList;
import java.util.List;
import java.util.Map;
import java.util.TreeMap;
import java.util.regex.Matcher;
import java.util.regex.Pattern;

/** What README.md says: the lines under Use stand here word by word, and each call has its row. */
public final class ReadmeTest {
    private static final Check CHECK = new Check();
    private static final Map<String, Long> ANSWERS = new TreeMap<>();
    private static final Map<String, String> SHORT = Map.of("IndexOutOfBoundsException", "IOOBE",
            "IllegalArgumentException", "IAE", "IllegalStateException", "ISE");

    public static void main(String[] args) throws IOException {
        use();
        String readme = Files.readString(Path.of("README.md"));
        List<String> lines = linesOfUse(readme);
        sameLines(lines, Files.readAllLines(Path.of("test/ReadmeTest.java")));
        sameAnswers(lines);
        rows(readme);
        CHECK.end("ReadmeTest");
    }

    private static void use() {
        // the lines of README.md
        Ballotscript house = new Ballotscript();

        // a roll: the persons 7, 8 and 9 may vote by roll 0, from day 0 to day 1000
        int first = house.enter(0, 7, 0, 1000);   // 0: the number of the entry
        int second = house.enter(0, 8, 0, 1000);  // 1
        int third = house.enter(0, 9, 0, 1000);   // 2
        int today = house.pass(3);                // 3: today, three days later

        // a rule: its text is typed letter by letter, looked at, and entered
        for (char letter : "(t;e50;x;)r;".toCharArray()) {
            house.type(letter);
        }
        int fault = house.fault();                // -1: NONE, the text is a rule
        int rule = house.rule();                  // 0: the number of the rule
        int commands = house.commands(rule);      // 4: t, e50, x and r

        // a vote: by roll 0, three candidates, one seat, this rule
        int vote = house.open(0, 3, 1, rule);     // 0: the number of the vote

        // ballots: the candidates are marked in their order, then the ballot is cast by a person
        house.mark(2);
        house.mark(0);
        int ballot = house.cast(vote, 7);         // 0: the number of the ballot, 2 ahead of 0
        house.mark(0);
        house.mark(2);
        house.cast(vote, 8);
        house.mark(1);
        house.mark(2);
        house.cast(vote, 9);
        int reason = house.why(ballot);           // 0: COUNTS (otherwise LATER or BARRED)

        // a count: it is always of now, of an open vote and of a closed one
        int winners = house.winners(vote);        // 4: candidate 2 alone
        int byHand = house.winnersByHand(vote);   // 4: the same, found in another way
        int tallies = house.tallies(vote);        // 2: the brackets were done twice
        int votes = house.votes(vote, 1, 2);      // 2: of candidate 2 in the tally 1
        int gone = house.votes(vote, 1, 0);       // -1: NONE, candidate 0 did not stand then
        int ties = house.ties(vote);              // 1
        int tied = house.tied(vote, 0);           // 7: all three, when the first was out

        // a certified winner: of a closed vote; it stays as it is until the vote is certified anew
        int counting = house.close(vote);         // 3: so many ballots count
        int certificate = house.certify(vote);    // 4
        house.misread(ballot);                    // from now on 0 is read ahead of 2 on it
        int misled = house.winners(vote);         // 1: candidate 0
        int certified = house.certified(vote);    // 4: still candidate 2
        int stale = house.stale();                // 1: one vote whose winners are others now
        int found = house.sample(vote, 1, 3);     // 1: of three draws one found a ballot misread
        int doubt = house.doubt(vote);            // 33: in a hundred, of all draws so far
        int staleThen = house.stale();            // 0: the ballot was put right by that
        // end of the lines of README.md
        answers("first second third today fault rule commands vote ballot reason",
                first, second, third, today, fault, rule, commands, vote, ballot, reason);
        answers("winners byHand tallies votes gone ties tied",
                winners, byHand, tallies, votes, gone, ties, tied);
        answers("counting certificate misled certified stale found doubt staleThen",
                counting, certificate, misled, certified, stale, found, doubt, staleThen);
    }

    private static void answers(String names, long... values) {
        String[] each = names.split(" ");
        for (int place = 0; place < values.length; place++) {
            ANSWERS.put(each[place], values[place]);
        }
    }

    private static List<String> linesOfUse(String readme) {
        Matcher block = Pattern.compile("(?s)```java\n(.*?)```").matcher(readme);
        List<String> lines = new ArrayList<>();
        if (block.find()) {
            lines.addAll(List.of(block.group(1).split("\n")));
        }
        is("README.md shows the use of the class", !lines.isEmpty());
        is("in one block", !block.find());
        return lines;
    }

    private static void sameLines(List<String> lines, List<String> source) {
        int start = source.indexOf("        // the lines of README.md") + 1;
        int end = source.indexOf("        // end of the lines of README.md");
        CHECK.same("as many lines in README.md as here", end - start, lines.size());
        for (int line = 0; line < Math.min(lines.size(), end - start); line++) {
            is("in README.md as here: " + source.get(start + line).strip(),
                    lines.get(line).strip().equals(source.get(start + line).strip()));
        }
    }

    private static void sameAnswers(List<String> lines) {
        int told = 0;
        for (String line : lines) {
            Matcher answer = Pattern.compile("int (\\w+) = .*// (-?\\d+)\\b.*").matcher(line);
            if (answer.matches()) {
                told++;
                CHECK.same("README.md: " + line, Long.parseLong(answer.group(2)),
                        ANSWERS.getOrDefault(answer.group(1), Long.MIN_VALUE));
            }
        }
        CHECK.same("each answer is told", ANSWERS.size(), told);
    }

    // The row of a call names its exceptions, in the order of its throws clause.
    private static void rows(String readme) {
        for (Method method : Ballotscript.class.getDeclaredMethods()) {
            if (!Modifier.isPublic(method.getModifiers())) {
                continue;
            }
            Matcher row = Pattern.compile("(?m)^\\| `" + method.getName() + "\\((.*?)\\)` \\|.+\\|(.+)\\|$")
                    .matcher(readme);
            boolean stands = row.find();
            is("a row of " + method.getName(), stands);
            if (!stands) {
                continue;
            }
            int parameters = row.group(1).isEmpty() ? 0 : row.group(1).split(", ").length;
            CHECK.same("parameters of " + method.getName(), method.getParameterCount(), parameters);
            StringBuilder due = new StringBuilder();
            for (Class<?> type : method.getExceptionTypes()) {
                due.append(SHORT.get(type.getSimpleName())).append(' ');
            }
            StringBuilder named = new StringBuilder();
            Matcher exception = Pattern.compile("\\b(IOOBE|IAE|ISE):").matcher(row.group(2));
            while (exception.find()) {
                named.append(exception.group(1)).append(' ');
            }
            is(method.getName() + " throws " + due + "and README.md says " + named,
                    due.toString().equals(named.toString()));
            is(method.getName() + ": nothing, or what it throws",
                    row.group(2).strip().equals("nothing") == (method.getExceptionTypes().length == 0));
        }
    }

    private static void is(String what, boolean so) {
        CHECK.same(what, 1, so ? 1 : 0);
    }
}
