/**
 * The rules of propagation tried out whole: each choice of places for the items of
 * a kind, and each choice of places for the items of a clue of each sort. What is
 * due is told here straight from the document, place by place.
 */
final class EachMaskTest {
    private static final int NONE = ClueGrid.NONE;
    private static final int[] ALL_LEFT = {15, 15, 15, 15, 15, 15, 15, 15, 15, 15, 15, 15};

    private final int sort;
    private final int[] items;
    private final int cluePlace;
    private int[] left;
    private int rounds = 0;
    private int hint = NONE;
    private int hintBy = NONE;

    private EachMaskTest(int sort, int[] items, int cluePlace, int[] first) {
        this.sort = sort;
        this.items = items;
        this.cluePlace = cluePlace;
        this.left = first.clone();
        propagate();
    }

    public static void main(String[] args) {
        eachKind();
        for (int sort = 0; sort < 4; sort++) {
            eachPair(sort, new int[] {1, 7});
            eachPair(sort, new int[] {10, 9});
        }
        for (int place = 0; place < 4; place++) {
            eachPlaced(4, place);
            eachPlaced(5, place);
        }
        eachEither(new int[] {6, 8, 3});
        eachEither(new int[] {2, 0, 5});
        Check.end("EachMaskTest");
    }

    // ---- what is due

    private void propagate() {
        boolean isChanged = true;
        while (isChanged) {
            int[] next = left.clone();
            isChanged = false;
            for (int spot = 0; spot < 48; spot++) {
                int by = (left[spot / 4] >> spot % 4 & 1) == 0 ? NONE : ruledOutBy(spot / 4, spot % 4);
                if (by != NONE) {
                    next[spot / 4] -= 1 << spot % 4;
                    isChanged = true;
                    hintBy = rounds == 0 && hint == NONE ? by : hintBy;
                    hint = rounds == 0 && hint == NONE ? spot : hint;
                }
            }
            left = next;
            rounds += isChanged ? 1 : 0;
        }
    }

    private int ruledOutBy(int item, int place) {
        for (int each : items) {
            if (each == item && !hasChoice(item, place)) {
                return 0;
            }
        }
        for (int other = item / 4 * 4; other < item / 4 * 4 + 4; other++) {
            if (other != item && left[other] == 1 << place) {
                return 12;
            }
        }
        for (int elsewhere = 0; elsewhere < 4; elsewhere++) {
            int holders = 0;
            for (int other = item / 4 * 4; other < item / 4 * 4 + 4; other++) {
                holders += left[other] >> elsewhere & 1;
            }
            if (elsewhere != place && holders == 1 && (left[item] >> elsewhere & 1) == 1) {
                return 13;
            }
        }
        return NONE;
    }

    private boolean hasChoice(int item, int place) {
        for (int choice = 0; choice < 64; choice++) {
            int[] at = {choice & 3, choice >> 2 & 3, choice >> 4};
            boolean isOpen = true;
            for (int i = 0; i < items.length; i++) {
                isOpen &= items[i] == item ? at[i] == place : (left[items[i]] >> at[i] & 1) == 1;
            }
            if (isOpen && holds(at[0], at[1], at[2])) {
                return true;
            }
        }
        return false;
    }

    private boolean holds(int x, int y, int z) {
        switch (sort) {
            case 0: return x == y;
            case 1: return x != y;
            case 2: return x < y;
            case 3: return x == y + 1 || y == x + 1;
            case 4: return x == cluePlace;
            case 5: return x != cluePlace;
            default: return x == y || x == z;
        }
    }

    private boolean isContradiction() {
        for (int kind = 0; kind < 12; kind += 4) {
            int all = left[kind] | left[kind + 1] | left[kind + 2] | left[kind + 3];
            if (all != 15 || left[kind] == 0 || left[kind + 1] == 0 || left[kind + 2] == 0 || left[kind + 3] == 0) {
                return true;
            }
        }
        return false;
    }

    // ---- what is answered

    private void holdAgainst(ClueGrid grid, String what) {
        Check.about(what);
        boolean isNothing = isContradiction();
        Check.due("isContradiction()", grid.isContradiction(), isNothing);
        Check.due("rounds()", grid.rounds(), rounds);
        Check.due("hint()", grid.hint(), hint);
        Check.due("hintBy()", grid.hintBy(), hintBy);
        int fixed = 0;
        for (int item = 0; item < 12; item++) {
            int due = isNothing ? 0 : left[item];
            Check.due("left(" + item + ")", grid.left(item), due);
            Check.due("leftByTurns(" + item + ")", grid.leftByTurns(item), due);
            fixed += Integer.bitCount(due) == 1 ? 1 : 0;
        }
        Check.due("fixedItems()", grid.fixedItems(), fixed);
    }

    private static void crossBut(ClueGrid grid, int item, int mask) {
        for (int place = 0; place < 4; place++) {
            if ((mask >> place & 1) == 0) {
                grid.cross(item, place);
            }
        }
    }

    /** All 65536, each kind in its turn. */
    private static void eachKind() {
        for (int masks = 0; masks < 65536; masks++) {
            int[] first = ALL_LEFT.clone();
            ClueGrid grid = new ClueGrid();
            for (int i = 0; i < 4; i++) {
                int item = masks % 3 * 4 + i;
                first[item] = masks >> 4 * i & 15;
                crossBut(grid, item, first[item]);
            }
            new EachMaskTest(4, new int[0], 0, first).holdAgainst(grid, "the masks " + masks + " of the kind " + masks % 3);
        }
    }

    private static void eachPair(int sort, int[] items) {
        for (int masks = 0; masks < 256; masks++) {
            ClueGrid grid = new ClueGrid();
            switch (sort) {
                case 0: grid.same(items[0], items[1]); break;
                case 1: grid.apart(items[0], items[1]); break;
                case 2: grid.leftOf(items[0], items[1]); break;
                default: grid.nextTo(items[0], items[1]);
            }
            eachOf(grid, sort, items, 0, masks);
        }
    }

    private static void eachPlaced(int sort, int place) {
        for (int masks = 0; masks < 192; masks++) {
            int[] items = {masks / 16};
            ClueGrid grid = new ClueGrid();
            if (sort == 4) {
                grid.at(items[0], place);
            } else {
                grid.notAt(items[0], place);
            }
            eachOf(grid, sort, items, place, masks % 16);
        }
    }

    private static void eachEither(int[] items) {
        for (int masks = 0; masks < 4096; masks++) {
            ClueGrid grid = new ClueGrid();
            grid.either(items[0], items[1], items[2]);
            eachOf(grid, 6, items, 0, masks);
        }
    }

    private static void eachOf(ClueGrid grid, int sort, int[] items, int place, int masks) {
        int[] first = ALL_LEFT.clone();
        for (int i = 0; i < items.length; i++) {
            first[items[i]] = masks >> 4 * i & 15;
            crossBut(grid, items[i], first[items[i]]);
        }
        new EachMaskTest(sort, items, place, first).holdAgainst(grid, "the masks " + masks + " of the sort " + sort);
    }
}
