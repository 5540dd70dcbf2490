import java.util.ArrayDeque;
import java.util.ArrayList;
import java.util.HashSet;
import java.util.List;
import java.util.Set;

/**
 * The document told once more, as slowly and plainly as it is written there:
 * choices of places are tried one by one, texts are compared with a list of all
 * parts. The comparison test holds ClueGrid against it.
 */
final class PlainGrid {
    static final int NONE = -1;
    private static final List<int[]> ARRANGEMENTS = arrangements();
    private static final Set<String> PARTS = parts();

    private record Clue(int sort, int x, int y, int z, int place) {
        int[] items() {
            if (sort == 4 || sort == 5) {
                return new int[] {x};
            }
            return sort == 6 ? new int[] {x, y, z} : new int[] {x, y};
        }

        boolean holds(int px, int py, int pz) {
            switch (sort) {
                case 0: return px == py;
                case 1: return px != py;
                case 2: return px < py;
                case 3: return Math.abs(px - py) == 1;
                case 4: return px == place;
                case 5: return px != place;
                default: return px == py || px == pz;
            }
        }

        boolean holdsIn(int[] at) {
            return holds(at[x], y < 0 ? 0 : at[y], z < 0 ? 0 : at[z]);
        }

        /** Whether some choice of places that are left lets it hold with the item at the place. */
        boolean hasChoice(boolean[][] left, int item, int place) {
            for (int px = 0; px < 4; px++) {
                for (int py = 0; py < 4; py++) {
                    for (int pz = 0; pz < 4; pz++) {
                        if (may(left, x, px, item, place) && may(left, y, py, item, place)
                                && may(left, z, pz, item, place) && holds(px, py, pz)) {
                            return true;
                        }
                    }
                }
            }
            return false;
        }

        private static boolean may(boolean[][] left, int who, int where, int item, int place) {
            if (who < 0) {
                return where == 0;
            }
            return who == item ? where == place : left[who][where];
        }
    }

    private record State(List<Clue> clues, boolean[][] crossed, int made, int rubbed) {
    }

    private List<Clue> clues = new ArrayList<>();
    private boolean[][] crossed = new boolean[12][4];
    private int made;
    private int rubbed;
    private final StringBuilder buffer = new StringBuilder();
    private State snapshot;
    private final ArrayDeque<State> saved = new ArrayDeque<>();
    private List<int[]> known;

    // ---- clues

    int same(int one, int other) {
        return pair(0, one, other);
    }

    int apart(int one, int other) {
        return pair(1, one, other);
    }

    int leftOf(int one, int other) {
        return pair(2, one, other);
    }

    int nextTo(int one, int other) {
        return pair(3, one, other);
    }

    int at(int item, int place) {
        return placed(4, item, place);
    }

    int notAt(int item, int place) {
        return placed(5, item, place);
    }

    int either(int item, int one, int other) {
        item(item);
        item(one);
        item(other);
        if (item == one || item == other || one == other) {
            throw new IllegalArgumentException();
        }
        return add(new Clue(6, item, one, other, NONE));
    }

    int withdraw(int clue) {
        clue(clue);
        save();
        clues.remove(clue);
        return clues.size();
    }

    private int pair(int sort, int one, int other) {
        item(one);
        item(other);
        if (one == other) {
            throw new IllegalArgumentException();
        }
        return add(new Clue(sort, one, other, NONE, NONE));
    }

    private int placed(int sort, int item, int place) {
        item(item);
        place(place);
        return add(new Clue(sort, item, NONE, NONE, place));
    }

    private int add(Clue clue) {
        if (clues.size() == 12) {
            throw new IllegalStateException();
        }
        save();
        clues.add(clue);
        return clues.size() - 1;
    }

    // ---- crosses

    int cross(int item, int place) {
        item(item);
        place(place);
        if (crossed[item][place]) {
            throw new IllegalStateException();
        }
        save();
        crossed[item][place] = true;
        made++;
        return uncrossed(item);
    }

    int rubOut(int item, int place) {
        item(item);
        place(place);
        if (!crossed[item][place]) {
            throw new IllegalStateException();
        }
        save();
        crossed[item][place] = false;
        rubbed++;
        return uncrossed(item);
    }

    int rubAllOut() {
        int before = crosses();
        save();
        crossed = new boolean[12][4];
        rubbed += before;
        return before;
    }

    int settle() {
        if (isContradiction()) {
            throw new IllegalStateException();
        }
        boolean[][] end = end(new int[1]);
        save();
        int count = 0;
        for (int item = 0; item < 12; item++) {
            for (int place = 0; place < 4; place++) {
                if (!end[item][place] && !crossed[item][place]) {
                    crossed[item][place] = true;
                    count++;
                }
            }
        }
        made += count;
        return count;
    }

    private int uncrossed(int item) {
        int count = 0;
        for (int place = 0; place < 4; place++) {
            count += crossed[item][place] ? 0 : 1;
        }
        return count;
    }

    // ---- texts, the snapshot, undo

    int append(int code) {
        if (code < 33 || code > 126) {
            throw new IllegalArgumentException();
        }
        if (buffer.length() == 60) {
            throw new IllegalStateException();
        }
        buffer.append((char) code);
        return buffer.length();
    }

    int clearBuffer() {
        int before = buffer.length();
        buffer.setLength(0);
        return before;
    }

    int firstError() {
        for (int i = 0; i < buffer.length(); i++) {
            if (!begins(buffer.substring(0, i + 1))) {
                return i;
            }
        }
        return buffer.length();
    }

    private static boolean begins(String text) {
        String[] pieces = text.split(";", -1);
        for (int i = 0; i < pieces.length - 1; i++) {
            if (!PARTS.contains(pieces[i])) {
                return false;
            }
        }
        for (String part : PARTS) {
            if (part.startsWith(pieces[pieces.length - 1])) {
                return true;
            }
        }
        return false;
    }

    int take() {
        String[] pieces = buffer.toString().split(";", -1);
        for (String piece : pieces) {
            if (!PARTS.contains(piece)) {
                throw new IllegalArgumentException();
            }
        }
        State before = copy();
        ArrayDeque<State> savedBefore = new ArrayDeque<>(saved);
        int done = 0;
        try {
            for (String piece : pieces) {
                run(piece);
                done++;
            }
        } catch (IllegalStateException e) {
            // the first part whose method throws ends it
        }
        saved.clear();
        saved.addAll(savedBefore);
        push(before);
        buffer.setLength(0);
        return done;
    }

    private void run(String part) {
        int x = part.charAt(0) - 'A';
        int last = part.charAt(2);
        switch (part.charAt(0) == 'x' ? 'x' : part.charAt(1)) {
            case '=': same(x, last - 'A'); break;
            case '#': apart(x, last - 'A'); break;
            case '<': leftOf(x, last - 'A'); break;
            case '~': nextTo(x, last - 'A'); break;
            case '@': at(x, last - '0'); break;
            case '!': notAt(x, last - '0'); break;
            case '|': either(x, last - 'A', part.charAt(3) - 'A'); break;
            default: cross(part.charAt(1) - 'A', last - '0');
        }
    }

    int keep() {
        snapshot = copy();
        return clues.size();
    }

    int goBack() {
        if (snapshot == null) {
            throw new IllegalStateException();
        }
        save();
        restore(snapshot);
        return clues.size();
    }

    int undo() {
        if (saved.isEmpty()) {
            throw new IllegalStateException();
        }
        restore(saved.removeLast());
        return saved.size();
    }

    private State copy() {
        boolean[][] rows = new boolean[12][];
        for (int item = 0; item < 12; item++) {
            rows[item] = crossed[item].clone();
        }
        return new State(new ArrayList<>(clues), rows, made, rubbed);
    }

    private void restore(State state) {
        clues = new ArrayList<>(state.clues());
        crossed = new boolean[12][];
        for (int item = 0; item < 12; item++) {
            crossed[item] = state.crossed()[item].clone();
        }
        made = state.made();
        rubbed = state.rubbed();
        known = null;
    }

    private void save() {
        push(copy());
    }

    private void push(State state) {
        saved.addLast(state);
        if (saved.size() > 6) {
            saved.removeFirst();
        }
        known = null;
    }

    // ---- looks

    int clues() {
        return clues.size();
    }

    int sortOf(int clue) {
        return clue(clue).sort();
    }

    int itemOf(int clue, int part) {
        Clue found = clue(clue);
        if (part < 0 || part > 2) {
            throw new IndexOutOfBoundsException();
        }
        return part == 0 ? found.x() : part == 1 ? found.y() : found.z();
    }

    int placeOf(int clue) {
        return clue(clue).place();
    }

    boolean isCrossed(int item, int place) {
        item(item);
        place(place);
        return crossed[item][place];
    }

    int crosses() {
        int count = 0;
        for (int item = 0; item < 12; item++) {
            count += 4 - uncrossed(item);
        }
        return count;
    }

    int crossesByAccount() {
        return made - rubbed;
    }

    int made() {
        return made;
    }

    // ---- propagation

    private boolean[][] first() {
        boolean[][] left = new boolean[12][4];
        for (int item = 0; item < 12; item++) {
            for (int place = 0; place < 4; place++) {
                left[item][place] = !crossed[item][place];
            }
        }
        return left;
    }

    private boolean byClue(boolean[][] left, Clue clue, int item, int place) {
        for (int one : clue.items()) {
            if (one == item) {
                return !clue.hasChoice(left, item, place);
            }
        }
        return false;
    }

    private static boolean byAnother(boolean[][] left, int item, int place) {
        for (int other = item / 4 * 4; other < item / 4 * 4 + 4; other++) {
            if (other != item && left[other][place] && count(left[other]) == 1) {
                return true;
            }
        }
        return false;
    }

    private static boolean byNeed(boolean[][] left, int item, int place) {
        for (int elsewhere = 0; elsewhere < 4; elsewhere++) {
            int holders = 0;
            for (int other = item / 4 * 4; other < item / 4 * 4 + 4; other++) {
                holders += left[other][elsewhere] ? 1 : 0;
            }
            if (elsewhere != place && left[item][elsewhere] && holders == 1) {
                return true;
            }
        }
        return false;
    }

    private boolean isOut(boolean[][] left, int item, int place) {
        if (!left[item][place]) {
            return false;
        }
        for (Clue clue : clues) {
            if (byClue(left, clue, item, place)) {
                return true;
            }
        }
        return byAnother(left, item, place) || byNeed(left, item, place);
    }

    private boolean[][] end(int[] rounds) {
        boolean[][] left = first();
        boolean isChanged = true;
        while (isChanged) {
            isChanged = false;
            boolean[][] next = new boolean[12][4];
            for (int item = 0; item < 12; item++) {
                for (int place = 0; place < 4; place++) {
                    boolean isOut = isOut(left, item, place);
                    next[item][place] = left[item][place] && !isOut;
                    isChanged |= isOut;
                }
            }
            left = next;
            rounds[0] += isChanged ? 1 : 0;
        }
        return left;
    }

    private static int count(boolean[] row) {
        int count = 0;
        for (boolean each : row) {
            count += each ? 1 : 0;
        }
        return count;
    }

    private static int mask(boolean[] row) {
        int mask = 0;
        for (int place = 0; place < 4; place++) {
            mask |= row[place] ? 1 << place : 0;
        }
        return mask;
    }

    private static boolean isContradiction(boolean[][] end) {
        for (int kind = 0; kind < 3; kind++) {
            int all = 0;
            for (int item = 4 * kind; item < 4 * kind + 4; item++) {
                if (count(end[item]) == 0) {
                    return true;
                }
                all |= mask(end[item]);
            }
            if (all != 15) {
                return true;
            }
        }
        return false;
    }

    int left(int item) {
        item(item);
        boolean[][] end = end(new int[1]);
        return isContradiction(end) ? 0 : mask(end[item]);
    }

    int leftByTurns(int item) {
        return left(item);
    }

    int rounds() {
        int[] rounds = new int[1];
        end(rounds);
        return rounds[0];
    }

    boolean isContradiction() {
        return isContradiction(end(new int[1]));
    }

    int fixedAt(int item) {
        int mask = left(item);
        return mask == 1 ? 0 : mask == 2 ? 1 : mask == 4 ? 2 : mask == 8 ? 3 : NONE;
    }

    int fixedItems() {
        int count = 0;
        for (int item = 0; item < 12; item++) {
            count += fixedAt(item) == NONE ? 0 : 1;
        }
        return count;
    }

    int hint() {
        boolean[][] left = first();
        for (int item = 0; item < 12; item++) {
            for (int place = 0; place < 4; place++) {
                if (isOut(left, item, place)) {
                    return 4 * item + place;
                }
            }
        }
        return NONE;
    }

    int hintBy() {
        int hint = hint();
        if (hint == NONE) {
            return NONE;
        }
        boolean[][] left = first();
        for (int i = 0; i < clues.size(); i++) {
            if (byClue(left, clues.get(i), hint / 4, hint % 4)) {
                return i;
            }
        }
        return byAnother(left, hint / 4, hint % 4) ? 12 : 13;
    }

    // ---- solutions

    private List<int[]> allSolutions() {
        if (known == null) {
            known = solutionsWithout(NONE);
        }
        return known;
    }

    private List<int[]> solutionsWithout(int spared) {
        List<int[]> found = new ArrayList<>();
        for (int[] at : ARRANGEMENTS) {
            if (isSolution(at, spared)) {
                found.add(at);
            }
        }
        return found;
    }

    private boolean isSolution(int[] at, int spared) {
        for (int item = 0; item < 12; item++) {
            if (crossed[item][at[item]]) {
                return false;
            }
        }
        for (int i = 0; i < clues.size(); i++) {
            if (i != spared && !clues.get(i).holdsIn(at)) {
                return false;
            }
        }
        return true;
    }

    int solutions() {
        return allSolutions().size();
    }

    int solutionsBySearch() {
        return allSolutions().size();
    }

    int placeIn(int rank, int item) {
        if (rank < 0) {
            throw new IndexOutOfBoundsException();
        }
        item(item);
        return rank < allSolutions().size() ? allSolutions().get(rank)[item] : NONE;
    }

    int trulyLeft(int item) {
        item(item);
        int mask = 0;
        for (int[] at : allSolutions()) {
            mask |= 1 << at[item];
        }
        return mask;
    }

    boolean isSpare(int clue) {
        clue(clue);
        return solutionsWithout(clue).size() == allSolutions().size();
    }

    int culprit() {
        if (!allSolutions().isEmpty()) {
            return NONE;
        }
        for (int i = 0; i < clues.size(); i++) {
            if (!solutionsWithout(i).isEmpty()) {
                return i;
            }
        }
        return NONE;
    }

    int barredBy(int clue) {
        Clue found = clue(clue);
        int count = 0;
        for (int[] at : ARRANGEMENTS) {
            count += found.holdsIn(at) ? 0 : 1;
        }
        return count;
    }

    boolean isPlain() {
        for (int item = 0; item < 12; item++) {
            if (left(item) != trulyLeft(item)) {
                return false;
            }
        }
        return true;
    }

    double fixedShare() {
        return (double) fixedItems() / 12;
    }

    float meanLeft() {
        int count = 0;
        for (int item = 0; item < 12; item++) {
            count += Integer.bitCount(left(item));
        }
        return (float) count / 12;
    }

    long digest() {
        List<Long> values = new ArrayList<>();
        values.add((long) clues());
        for (int i = 0; i < clues(); i++) {
            values.add((long) sortOf(i));
            for (int part = 0; part < 3; part++) {
                values.add((long) itemOf(i, part));
            }
            values.add((long) placeOf(i));
            values.add(isSpare(i) ? 1L : 0L);
            values.add((long) barredBy(i));
        }
        for (int item = 0; item < 12; item++) {
            for (int place = 0; place < 4; place++) {
                values.add(isCrossed(item, place) ? 1L : 0L);
            }
            values.add((long) left(item));
            values.add((long) leftByTurns(item));
            values.add((long) fixedAt(item));
            values.add((long) trulyLeft(item));
            values.add((long) placeIn(0, item));
            values.add((long) placeIn(1, item));
        }
        addFindings(values);
        long hash = 4217;
        for (long value : values) {
            hash = 31 * hash + value;
        }
        return hash;
    }

    private void addFindings(List<Long> values) {
        values.add((long) crosses());
        values.add((long) crossesByAccount());
        values.add((long) made());
        values.add((long) rounds());
        values.add(isContradiction() ? 1L : 0L);
        values.add((long) fixedItems());
        values.add((long) hint());
        values.add((long) hintBy());
        values.add((long) solutions());
        values.add((long) solutionsBySearch());
        values.add((long) culprit());
        values.add(isPlain() ? 1L : 0L);
        values.add((long) saved.size());
        values.add(Double.doubleToLongBits(fixedShare()));
        values.add((long) Float.floatToIntBits(meanLeft()));
        values.add(snapshot != null ? 1L : 0L);
        values.add((long) buffer.length());
        for (int i = 0; i < buffer.length(); i++) {
            values.add((long) buffer.charAt(i));
        }
    }

    // ---- arguments, and the lists that are made once

    private static void item(int item) {
        if (item < 0 || item > 11) {
            throw new IndexOutOfBoundsException();
        }
    }

    private static void place(int place) {
        if (place < 0 || place > 3) {
            throw new IndexOutOfBoundsException();
        }
    }

    private Clue clue(int clue) {
        if (clue < 0 || clue >= clues.size()) {
            throw new IndexOutOfBoundsException();
        }
        return clues.get(clue);
    }

    private static List<int[]> arrangements() {
        List<int[]> all = new ArrayList<>();
        placeFrom(0, new int[12], all);
        return all;
    }

    private static void placeFrom(int item, int[] at, List<int[]> all) {
        if (item == 12) {
            all.add(at.clone());
            return;
        }
        for (int place = 0; place < 4; place++) {
            boolean isFree = true;
            for (int other = item / 4 * 4; other < item; other++) {
                isFree &= at[other] != place;
            }
            if (isFree) {
                at[item] = place;
                placeFrom(item + 1, at, all);
            }
        }
    }

    private static Set<String> parts() {
        Set<String> all = new HashSet<>();
        for (char x = 'A'; x <= 'L'; x++) {
            for (char place = '0'; place <= '3'; place++) {
                all.add(x + "@" + place);
                all.add(x + "!" + place);
                all.add("x" + x + place);
            }
            for (char y = 'A'; y <= 'L'; y++) {
                for (char sign : "=#<~".toCharArray()) {
                    if (x != y) {
                        all.add("" + x + sign + y);
                    }
                }
                for (char z = 'A'; z <= 'L'; z++) {
                    if (x != y && x != z && y != z) {
                        all.add(x + "|" + y + z);
                    }
                }
            }
        }
        return all;
    }
}
