import java.util.ArrayList;
import java.util.List;

/** A grid told as a text by its answers alone, so that two grids can be held against each other. */
final class Told {
    private Told() {
    }

    static String clue(ClueGrid grid, int clue) {
        return grid.sortOf(clue) + ":" + grid.itemOf(clue, 0) + "," + grid.itemOf(clue, 1) + ","
                + grid.itemOf(clue, 2) + "@" + grid.placeOf(clue);
    }

    /** All that undo() restores. */
    static String state(ClueGrid grid) {
        StringBuilder text = new StringBuilder();
        for (int i = 0; i < grid.clues(); i++) {
            text.append(clue(grid, i)).append(' ');
        }
        for (int spot = 0; spot < 48; spot++) {
            text.append(grid.isCrossed(spot / 4, spot % 4) ? 'x' : '.');
        }
        return text + " " + grid.crosses() + "/" + grid.crossesByAccount() + "/" + grid.made();
    }

    /** The saved states, the latest one first. They are used up then. */
    static List<String> savedStates(ClueGrid grid) {
        List<String> states = new ArrayList<>();
        List<String> answers = new ArrayList<>();
        for (int i = 0; i < 10; i++) {
            String answer = Check.outcome(grid::undo);
            if (answer.equals(Cases.STATE)) {
                break;
            }
            answers.add(answer);
            states.add(state(grid));
        }
        for (int i = 0; i < answers.size(); i++) {
            Check.due("undo() as the call " + i, answers.get(i), Integer.toString(answers.size() - 1 - i));
        }
        return states;
    }

    /** All that there is: the buffer is in the hash. The grid is used up then. */
    static String whole(ClueGrid grid) {
        String text = grid.digest() + "\n" + state(grid) + "\n" + savedStates(grid);
        return text + "\n" + Check.outcome(grid::goBack) + "\n" + state(grid);
    }

    static String left(ClueGrid grid) {
        StringBuilder masks = new StringBuilder();
        for (int item = 0; item < 12; item++) {
            masks.append(Integer.toHexString(grid.left(item)));
        }
        return masks.toString();
    }

    static String leftByTurns(ClueGrid grid) {
        StringBuilder masks = new StringBuilder();
        for (int item = 0; item < 12; item++) {
            masks.append(Integer.toHexString(grid.leftByTurns(item)));
        }
        return masks.toString();
    }

    static String trulyLeft(ClueGrid grid) {
        StringBuilder masks = new StringBuilder();
        for (int item = 0; item < 12; item++) {
            masks.append(Integer.toHexString(grid.trulyLeft(item)));
        }
        return masks.toString();
    }

    /** The places of all items in a solution, "-" for NONE. */
    static String solution(ClueGrid grid, int rank) {
        StringBuilder places = new StringBuilder();
        for (int item = 0; item < 12; item++) {
            int place = grid.placeIn(rank, item);
            places.append(place == ClueGrid.NONE ? "-" : Integer.toString(place));
        }
        return places.toString();
    }

    /** What digest() has to answer, by the other answers and what only the caller knows. */
    static long digest(ClueGrid grid, int saved, boolean hasSnapshot, String buffer) {
        long[] hash = {4217};
        mix(hash, grid.clues());
        for (int i = 0; i < grid.clues(); i++) {
            mix(hash, grid.sortOf(i), grid.itemOf(i, 0), grid.itemOf(i, 1), grid.itemOf(i, 2), grid.placeOf(i));
            mix(hash, flag(grid.isSpare(i)), grid.barredBy(i));
        }
        for (int item = 0; item < 12; item++) {
            for (int place = 0; place < 4; place++) {
                mix(hash, flag(grid.isCrossed(item, place)));
            }
            mix(hash, grid.left(item), grid.leftByTurns(item), grid.fixedAt(item), grid.trulyLeft(item));
            mix(hash, grid.placeIn(0, item), grid.placeIn(1, item));
        }
        mix(hash, grid.crosses(), grid.crossesByAccount(), grid.made(), grid.rounds(), flag(grid.isContradiction()));
        mix(hash, grid.fixedItems(), grid.hint(), grid.hintBy(), grid.solutions(), grid.solutionsBySearch());
        mix(hash, grid.culprit(), flag(grid.isPlain()), saved);
        mix(hash, Double.doubleToLongBits(grid.fixedShare()), Float.floatToIntBits(grid.meanLeft()));
        mix(hash, flag(hasSnapshot), buffer.length());
        for (int i = 0; i < buffer.length(); i++) {
            mix(hash, buffer.charAt(i));
        }
        return hash[0];
    }

    private static void mix(long[] hash, long... values) {
        for (long value : values) {
            hash[0] = 31 * hash[0] + value;
        }
    }

    private static long flag(boolean value) {
        return value ? 1 : 0;
    }
}
