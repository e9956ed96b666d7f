import java.util.ArrayList;
import java.util.List;

/**
 * Runs the tests of the document's sentences. A test is a run of rows on a new object, each row a call
 * and the answer that is due: "sail(0, 21) = 29". Rows stand on lines of their own or behind ";"; a line
 * "write e;e" appends its characters to the text; a line that begins with "#" says why. After every
 * call that is refused, all that the other methods tell has to be as it was before it. Every object
 * counts its calls, so that no run asks it more than the document tells about.
 */
final class Boundaries {
    private static final int MOST_STATES = 6;
    private static final int FREE = Integer.MIN_VALUE;
    private static final int[] BESIDE = {-1, 0, 1};

    private final Document document;
    private String section = "";
    private String sentence = "";
    private int tests;
    private int checks;
    private int refusals;
    private int wrong;

    Boundaries(Document document) {
        this.document = document;
    }

    /** The section of the document to which the next tests belong. */
    void section(String title) {
        section = title;
    }

    /** A test of a sentence (or of a part of one): a run of calls on a new object. */
    void test(String words, String... rows) {
        begin(words);
        run(String.join("\n", rows));
    }

    /** The same call with the numbers at and beside both ends of a range; # stands for the number. */
    void range(String words, String before, String call, int low, int high, String inside) {
        begin(words);
        List<Integer> numbers = new ArrayList<>(List.of(Integer.MIN_VALUE, Integer.MAX_VALUE));
        for (int end : new int[] {low, high}) {
            for (int step : BESIDE) {
                if (!numbers.contains(end + step)) {
                    numbers.add(end + step);
                }
            }
        }
        for (int number : numbers) {
            boolean isInside = number >= low && number <= high;
            String rows = isInside ? inside : call + " = INVALID_ARGUMENT";
            run(before + "\n" + rows.replace("#", Integer.toString(number)));
        }
    }

    /** An action: it records one state more, and undo() brings back all that was before it. */
    void action(String before, String row) {
        begin("This is an action.");
        List<Call> played = run(before);
        int states = replay(played).count(10);
        run(before + "\ncount(10) = " + states + "\n" + row + "\ncount(10) = " + Math.min(states + 1, MOST_STATES));
        compareUndone(before, row.substring(0, row.lastIndexOf(" = ")), "undo()");
    }

    /** Calls that change nothing though they succeed, after a run. */
    void changesNothing(String words, String before, String... calls) {
        begin(words);
        List<Call> played = run(before);
        for (String text : calls) {
            compareAround(played, Call.of(text));
        }
    }

    /** After these calls, all but the number of states in the history is as it was before them. */
    void sameAfter(String words, String before, String... calls) {
        begin(words);
        compareUndone(before, calls);
    }

    private void compareUndone(String before, String... calls) {
        List<Call> played = run(before);
        List<Call> more = new ArrayList<>(played);
        for (String text : calls) {
            more.add(Call.of(text));
        }
        for (List<Call> part : View.parts(replay(played).count(5))) {
            List<Call> looks = new ArrayList<>(part);
            looks.remove(View.STATES);
            compare(List.of(calls) + " changed", looks, View.of(replay(played), looks), View.of(replay(more), looks));
        }
        for (String slot : new String[] {"restore(0)", "restore(1)"}) {
            List<Call> looks = View.afterwards(List.of(Call.of(slot)));
            looks.remove(View.STATES);
            compare(List.of(calls) + " and " + slot + " changed", looks, View.of(replay(played), looks),
                View.of(replay(more), looks));
        }
    }

    /** A sentence that names no boundary, so that no run belongs to it. */
    void plain(String words) {
        begin(words);
        tests--;
    }

    /** A check that is no run of calls. */
    void require(boolean holds, String what) {
        tests++;
        checks++;
        if (!holds) {
            tell(what);
        }
    }

    /** Tells how it went; true if nothing was wrong. */
    boolean report() {
        for (String left : document.untouched()) {
            wrong++;
            System.out.println("no test belongs to the sentence: " + left);
        }
        System.out.println(tests + " tests for " + document.sentencesWithTests() + " sentences, " + checks + " checks, "
            + refusals + " refused calls looked around, " + wrong + " wrong");
        return wrong == 0;
    }

    private void begin(String words) {
        tests++;
        sentence = words;
        if (!document.touch(section, words)) {
            tell("the document has no such sentence");
        }
    }

    private void tell(String what) {
        wrong++;
        System.out.println(section + " / \"" + sentence + "\": " + what);
    }

    // ---- a run

    private List<Call> run(String rows) {
        CountedShips game = new CountedShips();
        List<Call> played = new ArrayList<>();
        for (String line : rows.split("\n")) {
            if (line.trim().startsWith("#")) {
                continue;
            }
            for (String row : rowsOf(line.trim(), played.size())) {
                play(game, played, row);
            }
        }
        return played;
    }

    private static List<String> rowsOf(String line, int playedBefore) {
        List<String> rows = new ArrayList<>();
        if (line.equals("write") || line.startsWith("write ")) {
            String signs = line.equals("write") ? "" : line.substring("write ".length());
            for (int i = 0; i < signs.length(); i++) {
                rows.add("append(" + (int) signs.charAt(i) + ") = " + (i + 1));
            }
            return rows;
        }
        for (String row : line.split(";")) {
            if (!row.isBlank()) {
                rows.add(row.trim());
            }
        }
        return rows;
    }

    private void play(CountedShips game, List<Call> played, String row) {
        int sign = row.lastIndexOf(" = ");
        if (sign < 0) {
            throw new IllegalArgumentException("no row: " + row);
        }
        Call call = Call.of(row.substring(0, sign).trim());
        String answer = row.substring(sign + 3).trim();
        int due = answer.equals("?") ? FREE : Call.number(answer);
        int got = call.on(game);
        checks++;
        if (due != FREE && got != due) {
            tell(call + " answered " + got + ", due is " + due + ", after " + played);
        }
        if (isError(due)) {
            refusals++;
            compareAround(played, call);
        }
        played.add(call);
    }

    private static boolean isError(int answer) {
        return answer < 0 && answer != FREE && answer != WindCardShips.NONE;
    }

    // ---- a call that changes nothing

    /** After these calls, all that the methods tell is the same before the call and after it. */
    private void compareAround(List<Call> before, Call call) {
        int ships = replay(before).count(5);
        for (List<Call> part : View.parts(ships)) {
            CountedShips game = replay(before);
            int[] then = View.of(game, part);
            call.on(game);
            compare(call + " changed", part, then, View.of(game, part));
        }
        compareLater(before, call);
    }

    /** What is kept out of sight is the same too: the states of the history, the slots and the text. */
    private void compareLater(List<Call> before, Call call) {
        for (List<Call> later : View.later()) {
            List<Call> looks = View.afterwards(later);
            CountedShips with = replay(before);
            call.on(with);
            compare(call + " and " + later + " changed", looks, View.of(replay(before), looks), View.of(with, looks));
        }
    }

    private void compare(String what, List<Call> looks, int[] then, int[] now) {
        checks++;
        for (int i = 0; i < then.length; i++) {
            if (then[i] != now[i]) {
                tell(what + " " + looks.get(i) + " from " + then[i] + " to " + now[i]);
                return;
            }
        }
    }

    private static CountedShips replay(List<Call> calls) {
        CountedShips game = new CountedShips();
        for (Call call : calls) {
            call.on(game);
        }
        return game;
    }
}
