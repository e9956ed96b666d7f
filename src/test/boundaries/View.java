import java.util.ArrayList;
import java.util.List;

/** All that the methods tell about an object, in parts small enough for its 512 calls. */
final class View {
    private static final int MOST_SHIPS = 8;
    private static final int HEXES = 81;
    /** The number of states in the history. */
    static final Call STATES = Call.of("count(10)");
    private static final List<Call> NUMBERS = numbers();
    private static final List<Call> PLACES = places();
    private static final List<Call> SHOTS = shots();
    private static final List<List<List<Call>>> WAYS = ways();
    private static final List<List<Call>> LATER = sequences();

    private View() {
    }

    static int[] of(CountedShips game, List<Call> looks) {
        int[] answers = new int[looks.size()];
        for (int i = 0; i < answers.length; i++) {
            answers[i] = looks.get(i).on(game);
        }
        return answers;
    }

    static List<List<Call>> parts(int ships) {
        List<List<Call>> parts = new ArrayList<>(List.of(NUMBERS, PLACES, SHOTS));
        for (int ship = 0; ship < ships && ship < MOST_SHIPS; ship++) {
            parts.addAll(WAYS.get(ship));
        }
        return parts;
    }

    /** Calls that bring to light what is kept: older states, the slots, the orders of the text. */
    static List<List<Call>> later() {
        return LATER;
    }

    static List<Call> afterwards(List<Call> later) {
        List<Call> looks = new ArrayList<>(later);
        looks.addAll(NUMBERS);
        looks.addAll(PLACES);
        return looks;
    }

    private static List<Call> numbers() {
        List<Call> all = new ArrayList<>();
        for (int what = 0; what < 12; what++) {
            all.add(what == 10 ? STATES : Call.of("count(" + what + ")"));
        }
        for (int captain = 0; captain < 2; captain++) {
            all.add(Call.of("strength(" + captain + ")"));
            for (int what = 0; what < 5; what++) {
                all.add(Call.of("captain(" + captain + ", " + what + ")"));
            }
        }
        for (int ship = 0; ship < MOST_SHIPS; ship++) {
            for (int what = 0; what < 11; what++) {
                all.add(Call.of("ship(" + ship + ", " + what + ")"));
            }
        }
        return all;
    }

    private static List<Call> places() {
        List<Call> all = new ArrayList<>();
        for (int hex = 0; hex < HEXES; hex++) {
            all.add(Call.of("on(" + hex + ")"));
        }
        for (int ship = 0; ship < MOST_SHIPS; ship++) {
            all.add(Call.of("targets(" + ship + ", 0)"));
            all.add(Call.of("targets(" + ship + ", 1)"));
            all.add(Call.of("threats(" + ship + ")"));
            all.add(Call.of("reach(" + ship + ")"));
        }
        all.add(Call.of("windBy(2, 3)"));
        return all;
    }

    private static List<Call> shots() {
        List<Call> all = new ArrayList<>();
        for (int ship = 0; ship < MOST_SHIPS; ship++) {
            for (int target = 0; target < MOST_SHIPS; target++) {
                all.add(Call.of("hits(" + ship + ", 0, " + target + ")"));
                all.add(Call.of("hits(" + ship + ", 1, " + target + ")"));
            }
        }
        return all;
    }

    private static List<List<List<Call>>> ways() {
        List<List<List<Call>>> all = new ArrayList<>();
        for (int ship = 0; ship < MOST_SHIPS; ship++) {
            List<Call> paths = new ArrayList<>();
            List<Call> cards = new ArrayList<>();
            List<Call> answers = new ArrayList<>();
            for (int hex = 0; hex < HEXES; hex++) {
                paths.add(Call.of("way(" + ship + ", " + hex + ", 0)"));
                cards.add(Call.of("bestCard(" + ship + ", " + hex + ", 0)"));
                answers.add(Call.of("bestCard(" + ship + ", " + hex + ", 1)"));
            }
            all.add(List.of(paths, cards, answers));
        }
        return all;
    }

    private static List<List<Call>> sequences() {
        List<List<Call>> all = new ArrayList<>();
        List<Call> undone = new ArrayList<>();
        for (int i = 0; i < 6; i++) {
            undone.add(Call.of("undo()"));
            all.add(new ArrayList<>(undone));
        }
        all.add(List.of(Call.of("restore(0)")));
        all.add(List.of(Call.of("restore(1)")));
        all.add(List.of(Call.of("undo()"), Call.of("restore(0)")));
        all.add(List.of(Call.of("undo()"), Call.of("restore(1)")));
        all.add(List.of(Call.of("carryOut()")));
        all.add(List.of(Call.of("end()"), Call.of("end()")));
        return all;
    }
}
