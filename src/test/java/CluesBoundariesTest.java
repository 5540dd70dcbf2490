/** The boundary cases of the clues: promises 2 to 9, and the terms that they rest on. */
final class CluesBoundariesTest {
    private static final String NO_ITEM = "Throws `IndexOutOfBoundsException` if there is no such item";
    private static final String NO_SPOT = "Throws `IndexOutOfBoundsException` if there is no such item or place";
    private static final String BOTH = "Throws `IllegalArgumentException` if both are the same";
    private static final String FULL = "Throws `IllegalStateException` if there are 12 clues";
    private static final String ORDER = "If several exceptions apply, the one that is named first in the throws clause is thrown.";
    private static final String NUMBER = "Returns the number of the clue.";
    private static final String KINDS = "They can be of the same kind, also if the clue can not hold then.";
    private static final String SORTS = "0: x and y stand at the same place; 1: x and y do not; 2: x stands left of y, at a lesser place, near or far; "
            + "3: x and y stand at neighbouring places; 4: x stands at the place p; 5: x does not; 6: x stands where y stands, or where z stands.";
    private static final String KEEPS = "A call that throws an exception changes nothing.";

    /** Whether a sort holds, with x at 0, 1, 2, 3 and y at 0, 1, 2, 3 each. */
    private static final String[] HOLDS = {"1000 0100 0010 0001", "0111 1011 1101 1110", "0111 0011 0001 0000", "0100 1010 0101 0010"};

    private interface Pair {
        int add(ClueGrid grid, int one, int other);
    }

    public static void main(String[] args) {
        Cases.runAll(CluesBoundariesTest.class);
    }

    // ---- what the promises 2 to 5 share

    private static void eachOne(int sort, Pair call) {
        for (int one = 0; one < 12; one++) {
            ClueGrid grid = new ClueGrid();
            int other = (one + 5) % 12;
            Check.due("the first clue", call.add(grid, one, other), 0);
            Check.due("the clue", Told.clue(grid, 0), sort + ":" + one + "," + other + ",-1@-1");
        }
    }

    private static void eachOther(int sort, Pair call) {
        for (int other = 0; other < 12; other++) {
            for (int one = 0; one < 12; one++) {
                if (one != other) {
                    ClueGrid grid = new ClueGrid();
                    Check.due("the first clue", call.add(grid, one, other), 0);
                    Check.due("the clue", Told.clue(grid, 0), sort + ":" + one + "," + other + ",-1@-1");
                }
            }
        }
    }

    private static void noSuchItem(Pair call) {
        for (int wrong : Cases.NO_ITEMS) {
            for (int right : new int[] {0, 11}) {
                Cases.refused(Cases::busy, wrong + " and " + right, grid -> call.add(grid, wrong, right), Cases.BOUNDS);
                Cases.refused(Cases::busy, right + " and " + wrong, grid -> call.add(grid, right, wrong), Cases.BOUNDS);
            }
            Cases.refused(Cases::nothing, wrong + " and 0", grid -> call.add(grid, wrong, 0), Cases.BOUNDS);
            Cases.refused(Cases::nothing, "0 and " + wrong, grid -> call.add(grid, 0, wrong), Cases.BOUNDS);
        }
        Cases.refused(Cases::busy, "-1 and 12", grid -> call.add(grid, -1, 12), Cases.BOUNDS);
    }

    private static void bothTheSame(Pair call) {
        for (int item = 0; item < 12; item++) {
            int same = item;
            Cases.refused(Cases::busy, same + " twice", grid -> call.add(grid, same, same), Cases.ARGUMENT);
        }
        Cases.refused(Cases::nothing, "0 twice", grid -> call.add(grid, 0, 0), Cases.ARGUMENT);
    }

    private static void thirteenth(Cases.Call call) {
        Check.due("the twelfth clue", call.on(Cases.made(Cases::nearlyFull)), 11);
        Cases.refused(Cases::full, "the 13th clue", call, Cases.STATE);
        Cases.refused(CluesBoundariesTest::fullByTake, "the 13th clue, 12 by take()", call, Cases.STATE);
        Cases.refused(CluesBoundariesTest::fullByGoBack, "the 13th clue, 12 by goBack()", call, Cases.STATE);
        Cases.refused(CluesBoundariesTest::fullByUndo, "the 13th clue, 12 by undo()", call, Cases.STATE);
        ClueGrid grid = Cases.made(Cases::full);
        grid.withdraw(11);
        Check.due("the twelfth clue once more", call.on(grid), 11);
    }

    private static void fullByTake(ClueGrid grid) {
        Cases.write(grid, "A#E;A#E;A#E;A#E;A#E;A#E;A#E;A#E;A#E;A#E;A#E;A#E");
        grid.take();
    }

    private static void fullByGoBack(ClueGrid grid) {
        Cases.full(grid);
        grid.keep();
        grid.withdraw(0);
        grid.goBack();
    }

    private static void fullByUndo(ClueGrid grid) {
        Cases.full(grid);
        grid.withdraw(0);
        grid.undo();
    }

    private static void orderOfPair(Pair call) {
        for (int wrong : Cases.NO_ITEMS) {
            Cases.refused(Cases::busy, wrong + " twice", grid -> call.add(grid, wrong, wrong), Cases.BOUNDS);
            Cases.refused(Cases::full, wrong + " twice as the 13th", grid -> call.add(grid, wrong, wrong), Cases.BOUNDS);
            Cases.refused(Cases::full, wrong + " as the 13th", grid -> call.add(grid, 3, wrong), Cases.BOUNDS);
        }
        Cases.refused(Cases::full, "0 twice as the 13th", grid -> call.add(grid, 0, 0), Cases.ARGUMENT);
        Cases.refused(Cases::full, "11 twice as the 13th", grid -> call.add(grid, 11, 11), Cases.ARGUMENT);
    }

    private static void numbers(Cases.Call call) {
        ClueGrid grid = new ClueGrid();
        for (int i = 0; i < 12; i++) {
            Check.due("the number", call.on(grid), i);
            Check.due("clues()", grid.clues(), i + 1);
        }
        grid.withdraw(0);
        Check.due("the number after a withdrawal", call.on(grid), 11);
        for (int left = 11; left >= 0; left--) {
            Check.due("withdraw(0)", grid.withdraw(0), left);
        }
        Check.due("the number after all are withdrawn", call.on(grid), 0);
    }

    private static void holdsAt(int sort, Pair call, int x, int y, int due) {
        for (int p = 0; p < 4; p++) {
            for (int q = 0; q < 4; q++) {
                ClueGrid grid = new ClueGrid();
                call.add(grid, x, y);
                grid.at(x, p);
                grid.at(y, q);
                boolean holds = HOLDS[sort].charAt(5 * p + q) == '1' && (x / 4 != y / 4 || p != q);
                Check.due("solutions() with " + x + " at " + p + " and " + y + " at " + q, grid.solutions(), holds ? due : 0);
            }
        }
    }

    private static void oneKind(int sort, Pair call, int solutions) {
        for (int item = 0; item < 12; item++) {
            ClueGrid grid = new ClueGrid();
            int other = item % 4 == 3 ? item - 3 : item + 1;
            Check.due("two of a kind", call.add(grid, item, other), 0);
            Check.due("solutions()", grid.solutions(), solutions);
            Check.due("solutionsBySearch()", grid.solutionsBySearch(), solutions);
        }
        holdsAt(sort, call, 0, 1, 1152);
        holdsAt(sort, call, 11, 8, 1152);
    }

    // ---- promise 2: same

    @Says("- `one`: 0 to 11")
    static void promise2OneIsEachItem() {
        eachOne(0, ClueGrid::same);
    }

    @Says("- `other`: 0 to 11")
    static void promise2OtherIsEachItem() {
        eachOther(0, ClueGrid::same);
    }

    @Says(NUMBER)
    static void promise2ReturnsFrom0To11() {
        numbers(grid -> grid.same(0, 4));
    }

    @Says(NO_ITEM)
    static void promise2NoSuchItem() {
        noSuchItem(ClueGrid::same);
    }

    @Says(BOTH)
    static void promise2BothAreTheSame() {
        bothTheSame(ClueGrid::same);
    }

    @Says({FULL, "There are at most 12 clues"})
    static void promise2TwelveClues() {
        thirteenth(grid -> grid.same(10, 2));
    }

    @Says(ORDER)
    static void promise2SeveralExceptionsApply() {
        orderOfPair(ClueGrid::same);
    }

    @Says("Undoable.")
    static void promise2Undoable() {
        Cases.undoable(Cases::nothing, "same(3, 9)", grid -> grid.same(3, 9));
        Cases.undoable(Cases::busy, "same(3, 9)", grid -> grid.same(3, 9));
        Cases.undoable(Cases::nearlyFull, "same(3, 9) as the twelfth", grid -> grid.same(3, 9));
    }

    @Says("0: x and y stand at the same place")
    static void promise2EachPairOfPlaces() {
        holdsAt(0, ClueGrid::same, 0, 4, 864);
        holdsAt(0, ClueGrid::same, 11, 3, 864);
    }

    @Says(KINDS)
    static void promise2OneKind() {
        oneKind(0, ClueGrid::same, 0);
        Check.due("left of all", Told.left(Cases.grid("A=B;H=E;I=L")), "ffffffffffff");
    }

    // ---- promise 3: apart

    @Says("- `one`: 0 to 11")
    static void promise3OneIsEachItem() {
        eachOne(1, ClueGrid::apart);
    }

    @Says("- `other`: 0 to 11")
    static void promise3OtherIsEachItem() {
        eachOther(1, ClueGrid::apart);
    }

    @Says(NUMBER)
    static void promise3ReturnsFrom0To11() {
        numbers(grid -> grid.apart(0, 4));
    }

    @Says(NO_ITEM)
    static void promise3NoSuchItem() {
        noSuchItem(ClueGrid::apart);
    }

    @Says(BOTH)
    static void promise3BothAreTheSame() {
        bothTheSame(ClueGrid::apart);
    }

    @Says({FULL, "There are at most 12 clues"})
    static void promise3TwelveClues() {
        thirteenth(grid -> grid.apart(10, 2));
    }

    @Says(ORDER)
    static void promise3SeveralExceptionsApply() {
        orderOfPair(ClueGrid::apart);
    }

    @Says("Undoable.")
    static void promise3Undoable() {
        Cases.undoable(Cases::nothing, "apart(3, 9)", grid -> grid.apart(3, 9));
        Cases.undoable(Cases::busy, "apart(3, 9)", grid -> grid.apart(3, 9));
        Cases.undoable(Cases::nearlyFull, "apart(3, 9) as the twelfth", grid -> grid.apart(3, 9));
    }

    @Says("1: x and y do not")
    static void promise3EachPairOfPlaces() {
        holdsAt(1, ClueGrid::apart, 0, 4, 864);
        holdsAt(1, ClueGrid::apart, 11, 3, 864);
    }

    @Says(KINDS)
    static void promise3OneKind() {
        oneKind(1, ClueGrid::apart, 13824);
    }

    // ---- promise 4: leftOf

    @Says("- `one`: 0 to 11")
    static void promise4OneIsEachItem() {
        eachOne(2, ClueGrid::leftOf);
    }

    @Says("- `other`: 0 to 11")
    static void promise4OtherIsEachItem() {
        eachOther(2, ClueGrid::leftOf);
    }

    @Says(NUMBER)
    static void promise4ReturnsFrom0To11() {
        numbers(grid -> grid.leftOf(0, 4));
    }

    @Says(NO_ITEM)
    static void promise4NoSuchItem() {
        noSuchItem(ClueGrid::leftOf);
    }

    @Says(BOTH)
    static void promise4BothAreTheSame() {
        bothTheSame(ClueGrid::leftOf);
    }

    @Says({FULL, "There are at most 12 clues"})
    static void promise4TwelveClues() {
        thirteenth(grid -> grid.leftOf(10, 2));
    }

    @Says(ORDER)
    static void promise4SeveralExceptionsApply() {
        orderOfPair(ClueGrid::leftOf);
    }

    @Says("Undoable.")
    static void promise4Undoable() {
        Cases.undoable(Cases::nothing, "leftOf(3, 9)", grid -> grid.leftOf(3, 9));
        Cases.undoable(Cases::busy, "leftOf(3, 9)", grid -> grid.leftOf(3, 9));
        Cases.undoable(Cases::nearlyFull, "leftOf(3, 9) as the twelfth", grid -> grid.leftOf(3, 9));
    }

    @Says("2: x stands left of y, at a lesser place, near or far")
    static void promise4EachPairOfPlaces() {
        holdsAt(2, ClueGrid::leftOf, 0, 4, 864);
        holdsAt(2, ClueGrid::leftOf, 11, 3, 864);
    }

    @Says(KINDS)
    static void promise4OneKind() {
        oneKind(2, ClueGrid::leftOf, 6912);
    }

    // ---- promise 5: nextTo

    @Says("- `one`: 0 to 11")
    static void promise5OneIsEachItem() {
        eachOne(3, ClueGrid::nextTo);
    }

    @Says("- `other`: 0 to 11")
    static void promise5OtherIsEachItem() {
        eachOther(3, ClueGrid::nextTo);
    }

    @Says(NUMBER)
    static void promise5ReturnsFrom0To11() {
        numbers(grid -> grid.nextTo(0, 4));
    }

    @Says(NO_ITEM)
    static void promise5NoSuchItem() {
        noSuchItem(ClueGrid::nextTo);
    }

    @Says(BOTH)
    static void promise5BothAreTheSame() {
        bothTheSame(ClueGrid::nextTo);
    }

    @Says({FULL, "There are at most 12 clues"})
    static void promise5TwelveClues() {
        thirteenth(grid -> grid.nextTo(10, 2));
    }

    @Says(ORDER)
    static void promise5SeveralExceptionsApply() {
        orderOfPair(ClueGrid::nextTo);
    }

    @Says("Undoable.")
    static void promise5Undoable() {
        Cases.undoable(Cases::nothing, "nextTo(3, 9)", grid -> grid.nextTo(3, 9));
        Cases.undoable(Cases::busy, "nextTo(3, 9)", grid -> grid.nextTo(3, 9));
        Cases.undoable(Cases::nearlyFull, "nextTo(3, 9) as the twelfth", grid -> grid.nextTo(3, 9));
    }

    /** The row has two ends: the places 0 and 3 are no neighbours. */
    @Says({"3: x and y stand at neighbouring places", "There are 4 places in a row, 0 to 3"})
    static void promise5EachPairOfPlaces() {
        holdsAt(3, ClueGrid::nextTo, 0, 4, 864);
        holdsAt(3, ClueGrid::nextTo, 11, 3, 864);
    }

    @Says(KINDS)
    static void promise5OneKind() {
        oneKind(3, ClueGrid::nextTo, 6912);
    }

    // ---- what the promises 6 and 7 share

    private static void eachSpot(int sort, Pair call) {
        for (int item = 0; item < 12; item++) {
            for (int place = 0; place < 4; place++) {
                ClueGrid grid = new ClueGrid();
                Check.due("the first clue", call.add(grid, item, place), 0);
                Check.due("the clue", Told.clue(grid, 0), sort + ":" + item + ",-1,-1@" + place);
            }
        }
    }

    private static void eachPlace(Pair call, boolean isAt) {
        for (int place = 0; place < 4; place++) {
            for (int item = 0; item < 12; item++) {
                ClueGrid grid = new ClueGrid();
                call.add(grid, item, place);
                Check.due("left of " + item, grid.left(item), isAt ? 1 << place : 15 - (1 << place));
                Check.due("trulyLeft of " + item, grid.trulyLeft(item), isAt ? 1 << place : 15 - (1 << place));
                Check.due("solutions()", grid.solutions(), isAt ? 3456 : 10368);
            }
        }
    }

    private static void noSuchSpot(Pair call) {
        for (int wrong : Cases.NO_ITEMS) {
            Cases.refused(Cases::busy, "the item " + wrong, grid -> call.add(grid, wrong, 3), Cases.BOUNDS);
            Cases.refused(Cases::nothing, "the item " + wrong, grid -> call.add(grid, wrong, 0), Cases.BOUNDS);
        }
        for (int wrong : Cases.NO_PLACES) {
            Cases.refused(Cases::busy, "the place " + wrong, grid -> call.add(grid, 11, wrong), Cases.BOUNDS);
            Cases.refused(Cases::nothing, "the place " + wrong, grid -> call.add(grid, 0, wrong), Cases.BOUNDS);
        }
        Cases.refused(Cases::busy, "neither", grid -> call.add(grid, 12, 4), Cases.BOUNDS);
    }

    private static void orderOfPlaced(Pair call) {
        for (int wrong : Cases.NO_ITEMS) {
            Cases.refused(Cases::full, "the item " + wrong + " as the 13th", grid -> call.add(grid, wrong, 0), Cases.BOUNDS);
        }
        for (int wrong : Cases.NO_PLACES) {
            Cases.refused(Cases::full, "the place " + wrong + " as the 13th", grid -> call.add(grid, 0, wrong), Cases.BOUNDS);
        }
    }

    // ---- promise 6: at

    @Says("- `item`: 0 to 11")
    static void promise6EachItem() {
        eachSpot(4, ClueGrid::at);
    }

    @Says({"- `place`: 0 to 3", "4: x stands at the place p"})
    static void promise6EachPlace() {
        eachPlace(ClueGrid::at, true);
    }

    @Says(NUMBER)
    static void promise6ReturnsFrom0To11() {
        numbers(grid -> grid.at(0, 3));
    }

    @Says(NO_SPOT)
    static void promise6NoSuchItemOrPlace() {
        noSuchSpot(ClueGrid::at);
    }

    @Says({FULL, "There are at most 12 clues"})
    static void promise6TwelveClues() {
        thirteenth(grid -> grid.at(10, 2));
    }

    @Says(ORDER)
    static void promise6SeveralExceptionsApply() {
        orderOfPlaced(ClueGrid::at);
    }

    @Says("Undoable.")
    static void promise6Undoable() {
        Cases.undoable(Cases::nothing, "at(3, 1)", grid -> grid.at(3, 1));
        Cases.undoable(Cases::busy, "at(3, 1)", grid -> grid.at(3, 1));
        Cases.undoable(Cases::nearlyFull, "at(3, 1) as the twelfth", grid -> grid.at(3, 1));
    }

    // ---- promise 7: notAt

    @Says("- `item`: 0 to 11")
    static void promise7EachItem() {
        eachSpot(5, ClueGrid::notAt);
    }

    @Says({"- `place`: 0 to 3", "5: x does not"})
    static void promise7EachPlace() {
        eachPlace(ClueGrid::notAt, false);
    }

    @Says(NUMBER)
    static void promise7ReturnsFrom0To11() {
        numbers(grid -> grid.notAt(0, 3));
    }

    @Says(NO_SPOT)
    static void promise7NoSuchItemOrPlace() {
        noSuchSpot(ClueGrid::notAt);
    }

    @Says({FULL, "There are at most 12 clues"})
    static void promise7TwelveClues() {
        thirteenth(grid -> grid.notAt(10, 2));
    }

    @Says(ORDER)
    static void promise7SeveralExceptionsApply() {
        orderOfPlaced(ClueGrid::notAt);
    }

    @Says("Undoable.")
    static void promise7Undoable() {
        Cases.undoable(Cases::nothing, "notAt(3, 1)", grid -> grid.notAt(3, 1));
        Cases.undoable(Cases::busy, "notAt(3, 1)", grid -> grid.notAt(3, 1));
        Cases.undoable(Cases::nearlyFull, "notAt(3, 1) as the twelfth", grid -> grid.notAt(3, 1));
    }

    // ---- promise 8: either

    private static void eitherTaken(int item, int one, int other) {
        ClueGrid grid = new ClueGrid();
        Check.due("the first clue", grid.either(item, one, other), 0);
        Check.due("the clue", Told.clue(grid, 0), "6:" + item + "," + one + "," + other + "@-1");
    }

    @Says("- `item`: 0 to 11")
    static void promise8EachItem() {
        for (int item = 0; item < 12; item++) {
            eitherTaken(item, (item + 4) % 12, (item + 1) % 12);
        }
    }

    @Says("- `one`: 0 to 11")
    static void promise8OneIsEachItem() {
        for (int one = 0; one < 12; one++) {
            eitherTaken((one + 1) % 12, one, (one + 8) % 12);
        }
    }

    @Says("- `other`: 0 to 11")
    static void promise8OtherIsEachItem() {
        for (int i = 0; i < 12 * 12 * 12; i++) {
            int item = i / 144;
            int one = i / 12 % 12;
            int other = i % 12;
            if (item != one && item != other && one != other) {
                eitherTaken(item, one, other);
            }
        }
    }

    @Says(NUMBER)
    static void promise8ReturnsFrom0To11() {
        numbers(grid -> grid.either(0, 4, 8));
    }

    @Says(NO_ITEM)
    static void promise8NoSuchItem() {
        for (int wrong : Cases.NO_ITEMS) {
            for (Cases.Build build : new Cases.Build[] {Cases::nothing, Cases::busy}) {
                Cases.refused(build, "x " + wrong, grid -> grid.either(wrong, 0, 11), Cases.BOUNDS);
                Cases.refused(build, "y " + wrong, grid -> grid.either(0, wrong, 11), Cases.BOUNDS);
                Cases.refused(build, "z " + wrong, grid -> grid.either(0, 11, wrong), Cases.BOUNDS);
            }
        }
        Cases.refused(Cases::busy, "-1, 12 and 13", grid -> grid.either(-1, 12, 13), Cases.BOUNDS);
    }

    @Says("Throws `IllegalArgumentException` if two of them are the same")
    static void promise8TwoAreTheSame() {
        for (int i = 0; i < 12; i++) {
            int item = i;
            int other = 11 - i;
            Cases.refused(Cases::busy, "x as y", grid -> grid.either(item, item, other), Cases.ARGUMENT);
            Cases.refused(Cases::busy, "x as z", grid -> grid.either(item, other, item), Cases.ARGUMENT);
            Cases.refused(Cases::busy, "y as z", grid -> grid.either(other, item, item), Cases.ARGUMENT);
            Cases.refused(Cases::nothing, "all three", grid -> grid.either(item, item, item), Cases.ARGUMENT);
        }
    }

    @Says({FULL, "There are at most 12 clues"})
    static void promise8TwelveClues() {
        thirteenth(grid -> grid.either(10, 2, 6));
    }

    @Says(ORDER)
    static void promise8SeveralExceptionsApply() {
        for (int wrong : Cases.NO_ITEMS) {
            Cases.refused(Cases::busy, "two alike, then " + wrong, grid -> grid.either(1, 1, wrong), Cases.BOUNDS);
            Cases.refused(Cases::busy, "two around " + wrong, grid -> grid.either(1, wrong, 1), Cases.BOUNDS);
            Cases.refused(Cases::full, wrong + " twice as the 13th", grid -> grid.either(0, wrong, wrong), Cases.BOUNDS);
            Cases.refused(Cases::full, wrong + " as the 13th", grid -> grid.either(0, 1, wrong), Cases.BOUNDS);
        }
        Cases.refused(Cases::full, "x as y as the 13th", grid -> grid.either(5, 5, 6), Cases.ARGUMENT);
        Cases.refused(Cases::full, "x as z as the 13th", grid -> grid.either(5, 6, 5), Cases.ARGUMENT);
        Cases.refused(Cases::full, "y as z as the 13th", grid -> grid.either(6, 5, 5), Cases.ARGUMENT);
    }

    @Says("Undoable.")
    static void promise8Undoable() {
        Cases.undoable(Cases::nothing, "either(3, 9, 4)", grid -> grid.either(3, 9, 4));
        Cases.undoable(Cases::busy, "either(3, 9, 4)", grid -> grid.either(3, 9, 4));
        Cases.undoable(Cases::nearlyFull, "either(3, 9, 4) as the twelfth", grid -> grid.either(3, 9, 4));
    }

    @Says({"6: x stands where y stands, or where z stands.", SORTS})
    static void promise8EachTripleOfPlaces() {
        for (int i = 0; i < 64; i++) {
            int p = i / 16;
            int q = i / 4 % 4;
            int r = i % 4;
            ClueGrid grid = Cases.grid("A@" + p + ";E@" + q + ";I@" + r + ";A|EI");
            Check.due("solutions() with A, E, I at " + p + q + r, grid.solutions(), p == q || p == r ? 216 : 0);
        }
    }

    @Says({KINDS, "The items of a clue are unlike."})
    static void promise8OneKind() {
        Check.due("solutions(), all of a kind", Cases.grid("A|BC").solutions(), 0);
        Check.due("solutions(), x and y of a kind", Cases.grid("A|BE").solutions(), 3456);
        Check.due("solutions(), x and z of a kind", Cases.grid("A|EB").solutions(), 3456);
        Check.due("solutions(), y and z of a kind", Cases.grid("A|EF").solutions(), 6912);
        Check.due("left of all, all of a kind", Told.left(Cases.grid("L|KJ")), "ffffffffffff");
    }

    // ---- promise 9: withdraw

    @Says("- `clue`: its number")
    static void promise9FirstAndLastOfTwelve() {
        ClueGrid grid = Cases.made(Cases::full);
        Check.due("withdraw(11)", grid.withdraw(11), 11);
        Check.due("withdraw(0)", grid.withdraw(0), 10);
        Check.due("withdraw(9)", grid.withdraw(9), 9);
        Check.due("withdraw(0) of one", Cases.grid("A=E").withdraw(0), 0);
    }

    @Says("Returns how many clues are left.")
    static void promise9ReturnsFrom11To0() {
        ClueGrid grid = Cases.made(Cases::full);
        for (int left = 11; left >= 0; left--) {
            Check.due("withdraw", grid.withdraw(left / 2), left);
            Check.due("clues()", grid.clues(), left);
        }
    }

    @Says("when one is withdrawn, those behind it get numbers that are 1 less")
    static void promise9NumbersOfThoseBehind() {
        for (int gone = 0; gone < 12; gone++) {
            ClueGrid grid = Cases.made(Cases::full);
            ClueGrid twin = Cases.made(Cases::full);
            grid.withdraw(gone);
            for (int i = 0; i < 11; i++) {
                Check.due("the clue " + i + " without " + gone, Told.clue(grid, i), Told.clue(twin, i < gone ? i : i + 1));
            }
        }
    }

    @Says("numbered from 0 in the order in which they came")
    static void promise9OneThatComesLaterIsTheLast() {
        ClueGrid grid = Cases.grid("A=E;B=F;C=G");
        grid.withdraw(0);
        Check.due("the number of one more", grid.at(0, 0), 2);
        Check.due("the clue 0", Told.clue(grid, 0), "0:1,5,-1@-1");
        Check.due("the clue 1", Told.clue(grid, 1), "0:2,6,-1@-1");
        Check.due("the clue 2", Told.clue(grid, 2), "4:0,-1,-1@0");
    }

    @Says("Throws `IndexOutOfBoundsException` if there is no such clue")
    static void promise9NoSuchClue() {
        for (int wrong : new int[] {-1, 0, 1, Cases.LEAST, Cases.GREATEST}) {
            Cases.refused(Cases::nothing, "withdraw(" + wrong + ") of none", grid -> grid.withdraw(wrong), Cases.BOUNDS);
        }
        for (int wrong : new int[] {-1, 4, 5, 11, 12, Cases.LEAST, Cases.GREATEST}) {
            Cases.refused(Cases::busy, "withdraw(" + wrong + ") of four", grid -> grid.withdraw(wrong), Cases.BOUNDS);
        }
        for (int wrong : new int[] {-1, 12, 13, Cases.LEAST, Cases.GREATEST}) {
            Cases.refused(Cases::full, "withdraw(" + wrong + ") of twelve", grid -> grid.withdraw(wrong), Cases.BOUNDS);
        }
    }

    /** A clue that was there once: its number is free again, and is no clue. */
    @Says(KEEPS)
    static void promise9NumberOfOneThatIsGone() {
        Cases.refused(CluesBoundariesTest::oneGone, "withdraw(1), which was the last", grid -> grid.withdraw(1), Cases.BOUNDS);
        Cases.refused(CluesBoundariesTest::allGone, "withdraw(0), which was the only one", grid -> grid.withdraw(0), Cases.BOUNDS);
    }

    private static void oneGone(ClueGrid grid) {
        grid.at(0, 0);
        grid.at(1, 1);
        grid.withdraw(1);
    }

    private static void allGone(ClueGrid grid) {
        grid.at(0, 0);
        grid.undo();
    }

    @Says("Undoable.")
    static void promise9Undoable() {
        Cases.undoable(Cases::busy, "withdraw(0)", grid -> grid.withdraw(0));
        Cases.undoable(Cases::full, "withdraw(11)", grid -> grid.withdraw(11));
        Cases.undoable(grid -> grid.at(0, 0), "withdraw(0) of one", grid -> grid.withdraw(0));
    }
}
