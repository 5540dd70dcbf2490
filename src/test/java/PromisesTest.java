import java.util.function.LongSupplier;

/**
 * Each promise of the document by its number, with answers worked out by hand:
 * ordinary inputs, the edges that the document names, and wrong inputs.
 */
final class PromisesTest {
    private static final int NONE = ClueGrid.NONE;
    private static final int[] WRONG_ITEMS = {-1, 12, Integer.MIN_VALUE, Integer.MAX_VALUE};
    private static final int[] WRONG_PLACES = {-1, 4, Integer.MIN_VALUE, Integer.MAX_VALUE};

    private interface Pair {
        int add(ClueGrid grid, int one, int other);
    }

    private interface ByItem {
        long look(ClueGrid grid, int item);
    }

    public static void main(String[] args) {
        promise1NewObject();
        pair(2, "same", 0, ClueGrid::same);
        pair(3, "apart", 1, ClueGrid::apart);
        pair(4, "leftOf", 2, ClueGrid::leftOf);
        pair(5, "nextTo", 3, ClueGrid::nextTo);
        whatPairsRuleOut();
        placed(6, "at", 4, ClueGrid::at);
        placed(7, "notAt", 5, ClueGrid::notAt);
        promise8Either();
        promise9Withdraw();
        promise10Cross();
        promise11RubOut();
        promise12RubAllOut();
        promise13Settle();
        promise14Append();
        promise15ClearBuffer();
        promise16FirstError();
        promise17Take();
        promise17TakeOfFullBuffer();
        promise17TakeStops();
        promise18Keep();
        promise19GoBack();
        promise20Undo();
        promises21To24LooksAtClues();
        promises25To28LooksAtCrosses();
        promise29Left();
        promise30LeftByTurns();
        promise31Rounds();
        promise32IsContradiction();
        promises33And34Fixed();
        promise35Hint();
        promise36HintBy();
        promises37And38Solutions();
        promise39PlaceIn();
        promise40TrulyLeft();
        promise41IsSpare();
        promise42Culprit();
        promise43BarredBy();
        promise44IsPlain();
        promises45And46Shares();
        promise47Digest();
        Check.end("PromisesTest");
    }

    private static ClueGrid grid(String... texts) {
        ClueGrid grid = new ClueGrid();
        for (String text : texts) {
            int parts = text.split(";", -1).length;
            write(grid, text);
            Check.due("parts taken of " + text, grid.take(), parts);
        }
        return grid;
    }

    private static void write(ClueGrid grid, String text) {
        for (int i = 0; i < text.length(); i++) {
            grid.append(text.charAt(i));
        }
    }

    private static int savedStates(ClueGrid grid) {
        int count = 0;
        while (Check.outcome(grid::undo).charAt(0) != 't') {
            count++;
        }
        return count;
    }

    /** The call saves one state, also if it changes nothing, and undo() brings all back. */
    private static void isUndoable(String call, ClueGrid grid, LongSupplier run) {
        long before = grid.digest();
        run.getAsLong();
        grid.undo();
        Check.due("digest after " + call + " and undo()", grid.digest(), before);
    }

    private static void wrongItems(String call, ClueGrid grid, ByItem look) {
        for (int wrong : WRONG_ITEMS) {
            Check.outOfBounds(grid, call + " of the item " + wrong, () -> look.look(grid, wrong));
        }
    }

    // ---- clues

    private static void promise1NewObject() {
        Check.about("promise 1");
        ClueGrid grid = new ClueGrid();
        Check.due("clues()", grid.clues(), 0);
        Check.due("crosses()", grid.crosses(), 0);
        Check.due("made()", grid.made(), 0);
        Check.due("crossesByAccount()", grid.crossesByAccount(), 0);
        Check.due("firstError()", grid.firstError(), 0);
        Check.due("clearBuffer()", grid.clearBuffer(), 0);
        Check.due("solutions()", grid.solutions(), 13824);
        Check.due("left of all", Told.left(grid), "ffffffffffff");
        Check.badState(grid, "undo()", grid::undo);
        Check.badState(grid, "goBack()", grid::goBack);
        Check.badArgument(grid, "take()", grid::take);
        Check.outOfBounds(grid, "sortOf(0)", () -> grid.sortOf(0));
        ClueGrid other = grid("A=E;xA0");
        Check.due("crosses() of another object", grid.crosses() + 10 * other.crosses(), 10);
    }

    private static void pair(int promise, String name, int sort, Pair call) {
        Check.about("promise " + promise);
        ClueGrid grid = new ClueGrid();
        for (int wrong : WRONG_ITEMS) {
            Check.outOfBounds(grid, name + " of " + wrong + " and 0", () -> call.add(grid, wrong, 0));
            Check.outOfBounds(grid, name + " of 0 and " + wrong, () -> call.add(grid, 0, wrong));
            Check.outOfBounds(grid, name + " of " + wrong + " twice", () -> call.add(grid, wrong, wrong));
        }
        Check.badArgument(grid, name + " of 0 twice", () -> call.add(grid, 0, 0));
        Check.badArgument(grid, name + " of 11 twice", () -> call.add(grid, 11, 11));
        isUndoable(name, grid, () -> call.add(grid, 3, 9));
        Check.due(name + "(0, 11)", call.add(grid, 0, 11), 0);
        Check.due("the clue", Told.clue(grid, 0), sort + ":0,11,-1@-1");
        Check.due(name + "(11, 0)", call.add(grid, 11, 0), 1);
        Check.due("the clue", Told.clue(grid, 1), sort + ":11,0,-1@-1");
        Check.due(name + " of one kind", call.add(grid, 5, 6), 2);
        for (int i = 3; i < 12; i++) {
            Check.due(name + " once more", call.add(grid, 5, 6), i);
        }
        Check.due("clues()", grid.clues(), 12);
        Check.badState(grid, name + " as the 13th", () -> call.add(grid, 1, 2));
        Check.badArgument(grid, name + " as the 13th, the same", () -> call.add(grid, 1, 1));
        Check.outOfBounds(grid, name + " as the 13th, no item", () -> call.add(grid, 1, 12));
        Check.due("undo()", grid.undo(), 5);
        Check.due("clues()", grid.clues(), 11);
    }

    /** Sorts told apart by what they leave: A at the place 1 is fixed, E is the other item. */
    private static void whatPairsRuleOut() {
        Check.about("promise 2");
        Check.due("left of E", grid("A@1;A=E").left(4), 2);
        Check.due("solutions()", grid("A=E").solutions(), 3456);
        Check.due("solutions() within a kind", grid("A=B").solutions(), 0);
        Check.about("promise 3");
        Check.due("left of E", grid("A@1;A#E").left(4), 13);
        Check.due("left of A, with two places for E", grid("xE0;xE1;A#E").left(0), 15);
        Check.due("hint(), with no place for E", grid("xE0;xE1;xE2;xE3;A#E").hint(), 0);
        Check.due("hint(), with E at 3", grid("E@3;A#E").hint(), 16);
        Check.due("hint(), with only 3 for E", grid("xE0;xE1;xE2;A#E").hint(), 3);
        Check.due("solutions()", grid("A#E").solutions(), 10368);
        Check.due("solutions() within a kind", grid("A#B").solutions(), 13824);
        Check.about("promise 4");
        Check.due("left of E", grid("A@1;A<E").left(4), 12);
        Check.due("left of E, the other way", grid("A@1;E<A").left(4), 1);
        Check.due("left of E, near or far", grid("A@0;A<E").left(4), 14);
        Check.due("left of A, near or far", grid("E@3;A<E").left(0), 7);
        Check.due("left of A, two lesser", grid("E@2;A<E").left(0), 3);
        Check.due("left of E, none lesser", grid("A@0;E<A").isContradiction(), true);
        Check.due("left of both", grid("A<E").left(0) * 100 + grid("A<E").left(4), 714);
        Check.due("solutions(), 6 of 16 places", grid("A<E").solutions(), 5184);
        Check.due("solutions() within a kind", grid("A<B").solutions(), 6912);
        Check.about("promise 5");
        Check.due("left of E", grid("A@1;A~E").left(4), 5);
        Check.due("left of E beside 3", grid("A@3;E~A").left(4), 4);
        Check.due("left of E beside 0", grid("A@0;E~A").left(4), 2);
        Check.due("solutions(), 6 of 16 places", grid("A~E").solutions(), 5184);
        Check.due("solutions() within a kind", grid("A~B").solutions(), 6912);
    }

    private static void placed(int promise, String name, int sort, Pair call) {
        Check.about("promise " + promise);
        ClueGrid grid = new ClueGrid();
        for (int wrong : WRONG_ITEMS) {
            Check.outOfBounds(grid, name + " of the item " + wrong, () -> call.add(grid, wrong, 0));
        }
        for (int wrong : WRONG_PLACES) {
            Check.outOfBounds(grid, name + " of the place " + wrong, () -> call.add(grid, 0, wrong));
        }
        isUndoable(name, grid, () -> call.add(grid, 3, 3));
        Check.due(name + "(0, 3)", call.add(grid, 0, 3), 0);
        Check.due("the clue", Told.clue(grid, 0), sort + ":0,-1,-1@3");
        Check.due("left of A", grid.left(0), sort == 4 ? 8 : 7);
        Check.due("solutions()", grid.solutions(), sort == 4 ? 3456 : 10368);
        Check.due(name + "(11, 0)", call.add(grid, 11, 0), 1);
        Check.due("the clue", Told.clue(grid, 1), sort + ":11,-1,-1@0");
        for (int i = 2; i < 12; i++) {
            Check.due(name + "(0, 0), also against the first", call.add(grid, 0, 0), i);
        }
        Check.badState(grid, name + " as the 13th", () -> call.add(grid, 1, 2));
        Check.outOfBounds(grid, name + " as the 13th, no place", () -> call.add(grid, 1, 4));
        Check.due("crosses()", grid.crosses(), 0);
    }

    private static void promise8Either() {
        Check.about("promise 8");
        ClueGrid grid = new ClueGrid();
        for (int wrong : WRONG_ITEMS) {
            Check.outOfBounds(grid, "either, x " + wrong, () -> grid.either(wrong, 0, 1));
            Check.outOfBounds(grid, "either, y " + wrong, () -> grid.either(0, wrong, 1));
            Check.outOfBounds(grid, "either, z " + wrong, () -> grid.either(0, 1, wrong));
            Check.outOfBounds(grid, "either, two alike, " + wrong, () -> grid.either(0, 0, wrong));
        }
        Check.badArgument(grid, "either(1, 1, 2)", () -> grid.either(1, 1, 2));
        Check.badArgument(grid, "either(1, 2, 1)", () -> grid.either(1, 2, 1));
        Check.badArgument(grid, "either(2, 1, 1)", () -> grid.either(2, 1, 1));
        Check.badArgument(grid, "either(1, 1, 1)", () -> grid.either(1, 1, 1));
        isUndoable("either", grid, () -> grid.either(0, 4, 8));
        Check.due("either(0, 11, 5)", grid.either(0, 11, 5), 0);
        Check.due("the clue", Told.clue(grid, 0), "6:0,11,5@-1");
        for (int i = 1; i < 12; i++) {
            Check.due("either(0, 4, 5)", grid.either(0, 4, 5), i);
        }
        Check.badState(grid, "either as the 13th", () -> grid.either(0, 4, 5));
        Check.badArgument(grid, "either as the 13th, two alike", () -> grid.either(0, 4, 4));
        Check.due("left of A", grid("E@0;F@2;A|EF").left(0), 5);
        Check.due("left of E, for F is elsewhere", grid("A@1;F@2;A|EF").left(4), 2);
        Check.due("left of F, for E is elsewhere", grid("A@1;E@2;A|EF").left(5), 2);
        Check.due("left of E, for F may be there", grid("A@1;A|EF").left(4), 15);
        Check.due("solutions(), half of all", grid("A|EF").solutions(), 6912);
        Check.due("solutions(), 7 of 16", grid("A|EI").solutions(), 13824 * 7 / 16);
    }

    private static void promise9Withdraw() {
        Check.about("promise 9");
        ClueGrid grid = grid("A=E;B#F;C<G;D@2");
        for (int wrong : new int[] {-1, 4, 5, 12, Integer.MIN_VALUE, Integer.MAX_VALUE}) {
            Check.outOfBounds(grid, "withdraw(" + wrong + ")", () -> grid.withdraw(wrong));
        }
        isUndoable("withdraw(0)", grid, () -> grid.withdraw(0));
        Check.due("withdraw(1)", grid.withdraw(1), 3);
        Check.due("the first clue", Told.clue(grid, 0), "0:0,4,-1@-1");
        Check.due("the next clue", Told.clue(grid, 1), "2:2,6,-1@-1");
        Check.due("the last clue", Told.clue(grid, 2), "4:3,-1,-1@2");
        Check.due("withdraw(2), the last", grid.withdraw(2), 2);
        Check.due("withdraw(0)", grid.withdraw(0), 1);
        Check.due("the clue that is left", Told.clue(grid, 0), "2:2,6,-1@-1");
        Check.due("withdraw(0)", grid.withdraw(0), 0);
        Check.outOfBounds(grid, "withdraw(0) of none", () -> grid.withdraw(0));
        Check.due("solutions()", grid.solutions(), 13824);
        ClueGrid full = grid("A#E;A#E;A#E;A#E;A#E;A#E", "A#E;A#E;A#E;A#E;A#E;B#F");
        Check.due("withdraw(0) of 12", full.withdraw(0), 11);
        Check.due("the last clue", Told.clue(full, 10), "1:1,5,-1@-1");
        Check.due("a clue has room again", full.same(0, 4), 11);
    }

    // ---- crosses

    private static void promise10Cross() {
        Check.about("promise 10");
        ClueGrid grid = new ClueGrid();
        wrongPlaces("cross", grid, grid::cross);
        isUndoable("cross(5, 2)", grid, () -> grid.cross(5, 2));
        Check.due("cross(11, 3)", grid.cross(11, 3), 3);
        Check.due("cross(11, 0)", grid.cross(11, 0), 2);
        Check.due("cross(11, 2)", grid.cross(11, 2), 1);
        Check.due("cross(11, 1)", grid.cross(11, 1), 0);
        Check.due("cross(0, 0)", grid.cross(0, 0), 3);
        Check.badState(grid, "cross(11, 3)", () -> grid.cross(11, 3));
        Check.badState(grid, "cross(0, 0)", () -> grid.cross(0, 0));
        Check.due("crosses()", grid.crosses(), 5);
        Check.due("isCrossed(0, 0)", grid.isCrossed(0, 0), true);
        Check.due("isCrossed(0, 1)", grid.isCrossed(0, 1), false);
        Check.due("isCrossed(1, 0)", grid.isCrossed(1, 0), false);
    }

    private static void wrongPlaces(String name, ClueGrid grid, Cross call) {
        for (int wrong : WRONG_ITEMS) {
            Check.outOfBounds(grid, name + " of the item " + wrong, () -> call.change(wrong, 0));
        }
        for (int wrong : WRONG_PLACES) {
            Check.outOfBounds(grid, name + " of the place " + wrong, () -> call.change(0, wrong));
        }
    }

    private interface Cross {
        int change(int item, int place);
    }

    private static void promise11RubOut() {
        Check.about("promise 11");
        ClueGrid grid = grid("xC0;xC1;xC2;xC3;xD0");
        wrongPlaces("rubOut", grid, grid::rubOut);
        Check.badState(grid, "rubOut(3, 1)", () -> grid.rubOut(3, 1));
        isUndoable("rubOut(2, 3)", grid, () -> grid.rubOut(2, 3));
        Check.due("rubOut(2, 3)", grid.rubOut(2, 3), 1);
        Check.due("rubOut(2, 0)", grid.rubOut(2, 0), 2);
        Check.badState(grid, "rubOut(2, 3)", () -> grid.rubOut(2, 3));
        Check.due("crosses()", grid.crosses(), 3);
        Check.due("made()", grid.made(), 5);
        Check.due("crossesByAccount()", grid.crossesByAccount(), 3);
        Check.due("cross(2, 3)", grid.cross(2, 3), 1);
        Check.due("made()", grid.made(), 6);
        Check.due("solutions(), with C at 0", grid.solutions(), 24 * 24 * 6);
    }

    private static void promise12RubAllOut() {
        Check.about("promise 12");
        ClueGrid grid = new ClueGrid();
        Check.due("rubAllOut() of none", grid.rubAllOut(), 0);
        Check.due("undo() of what changed nothing", grid.undo(), 0);
        write(grid, "xA0;xF2;xL3;A@0");
        grid.take();
        isUndoable("rubAllOut()", grid, grid::rubAllOut);
        Check.due("rubAllOut()", grid.rubAllOut(), 3);
        Check.due("crosses()", grid.crosses(), 0);
        Check.due("crossesByAccount()", grid.crossesByAccount(), 0);
        Check.due("made()", grid.made(), 3);
        Check.due("clues()", grid.clues(), 1);
        Check.due("isCrossed(11, 3)", grid.isCrossed(11, 3), false);
        ClueGrid full = new ClueGrid();
        for (int spot = 0; spot < 48; spot++) {
            full.cross(spot / 4, spot % 4);
        }
        Check.due("rubAllOut() of 48", full.rubAllOut(), 48);
        Check.due("made()", full.made(), 48);
    }

    private static void promise13Settle() {
        Check.about("promise 13");
        ClueGrid grid = grid("A@2;xA0");
        isUndoable("settle()", grid, grid::settle);
        Check.due("settle(), 2 of A, 1 each of B, C, D", grid.settle(), 5);
        Check.due("crosses()", grid.crosses(), 6);
        Check.due("made()", grid.made(), 6);
        Check.due("isCrossed(1, 2)", grid.isCrossed(1, 2), true);
        Check.due("isCrossed(1, 0)", grid.isCrossed(1, 0), false);
        Check.due("isCrossed(0, 2)", grid.isCrossed(0, 2), false);
        Check.due("settle() again", grid.settle(), 0);
        Check.due("rounds()", grid.rounds(), 0);
        Check.due("undo() of what changed nothing", grid.undo(), 2);
        Check.due("crosses()", grid.crosses(), 6);
        Check.due("rubOut(1, 2)", grid.rubOut(1, 2), 4);
        Check.due("settle() makes it again", grid.settle(), 1);
        Check.due("made()", grid.made(), 7);
        ClueGrid bad = grid("A@2;A@1");
        Check.badState(bad, "settle()", bad::settle);
        Check.due("crosses()", bad.crosses(), 0);
    }

    // ---- texts

    private static void promise14Append() {
        Check.about("promise 14");
        ClueGrid grid = new ClueGrid();
        for (int wrong : new int[] {32, 127, 0, -1, 65 + 256, 65 + 65536, Integer.MIN_VALUE, Integer.MAX_VALUE}) {
            Check.badArgument(grid, "append(" + wrong + ")", () -> grid.append(wrong));
        }
        Check.due("append(33)", grid.append(33), 1);
        Check.due("append(126)", grid.append(126), 2);
        for (int i = 3; i <= 60; i++) {
            Check.due("append(65)", grid.append(65), i);
        }
        Check.badState(grid, "append(65) as the 61st", () -> grid.append(65));
        Check.badArgument(grid, "append(32) as the 61st", () -> grid.append(32));
        Check.badState(grid, "undo(), as append is not undoable", grid::undo);
        Check.due("clearBuffer()", grid.clearBuffer(), 60);
        Check.due("append(65)", grid.append(65), 1);
    }

    private static void promise15ClearBuffer() {
        Check.about("promise 15");
        ClueGrid grid = new ClueGrid();
        Check.due("clearBuffer() of none", grid.clearBuffer(), 0);
        write(grid, "A=");
        Check.due("clearBuffer()", grid.clearBuffer(), 2);
        Check.due("clearBuffer() again", grid.clearBuffer(), 0);
        Check.badState(grid, "undo(), as clearBuffer is not undoable", grid::undo);
        write(grid, "B<C");
        Check.due("take() of what came later", grid.take(), 1);
        Check.due("the clue", Told.clue(grid, 0), "2:1,2,-1@-1");
    }

    private static void errorAt(String text, int due) {
        ClueGrid grid = new ClueGrid();
        write(grid, text);
        long before = grid.digest();
        Check.due("firstError() of " + text, grid.firstError(), due);
        Check.due("digest after firstError()", grid.digest(), before);
    }

    private static void promise16FirstError() {
        Check.about("promise 16");
        String[] right = {"", "A", "L", "x", "xA", "xL3", "A=", "A=B", "L#A", "A<L", "A~B", "A@0", "L!3", "A|BC", "L|KA",
            "A=B;", "A=B;x", "xA0;xA0;", "A|BC;A|CB;xA3", "A|LK;L@3;B"};
        for (String text : right) {
            errorAt(text, text.length());
        }
        String[] wrong = {"M", "a", "X", "0", ";", "=", "@", "xx", "x0", "x;", "x=", "xM", "xA4", "xAA", "xA;", "AB", "A0",
            "A;", "Ax", "A?", "A>", "A=A", "A=0", "A=M", "A=;", "A=x", "L#L", "A<A", "A~A", "A@4", "A@A", "A@;", "A@/", "A!x",
            "A!4", "A|A", "A|0", "A|;", "A|BA", "A|BB", "A|BM", "A|B;", "A|B0", "A|BCD", "A|BCA", "A=BC", "A=B0", "A@00",
            "xA00", "A=B;;", "A=B;M", "A=B;A;", "A|BC;A|BB", "A|BC;A|A", "xA0;xx", "A@0;A@4"};
        for (String text : wrong) {
            errorAt(text, text.length() - 1);
            errorAt(text + "=B;A", text.length() - 1);
        }
        errorAt("A=B;A=B;A=B;A=B;A=B;A=B;A=B;A=B;A=B;A=B;A=B;A=B;A=B;A=B;A=B;", 60);
    }

    private static void promise17Take() {
        Check.about("promise 17");
        for (String wrong : new String[] {"", "A", "A=", "x", "xA", "A@", "A|B", "A|", "A=B;", "A=A", "A=B;A", "M", "A=B;A|B", ";"}) {
            ClueGrid grid = new ClueGrid();
            write(grid, wrong);
            Check.badArgument(grid, "take() of " + wrong, grid::take);
            Check.due("clearBuffer()", grid.clearBuffer(), wrong.length());
            Check.badState(grid, "undo()", grid::undo);
        }
        ClueGrid grid = new ClueGrid();
        write(grid, "A=B;C#D;E<F;G~H;I@1;J!2;K|LA;xB3");
        Check.due("take()", grid.take(), 8);
        String[] due = {"0:0,1,-1@-1", "1:2,3,-1@-1", "2:4,5,-1@-1", "3:6,7,-1@-1", "4:8,-1,-1@1", "5:9,-1,-1@2", "6:10,11,0@-1"};
        Check.due("clues()", grid.clues(), due.length);
        for (int i = 0; i < due.length; i++) {
            Check.due("the clue " + i, Told.clue(grid, i), due[i]);
        }
        Check.due("isCrossed(1, 3)", grid.isCrossed(1, 3), true);
        Check.due("crosses()", grid.crosses(), 1);
        Check.due("made()", grid.made(), 1);
        Check.due("the buffer is cleared", grid.clearBuffer(), 0);
        Check.due("undo() of all at once", grid.undo(), 0);
        Check.due("clues()", grid.clues(), 0);
        Check.due("crosses()", grid.crosses(), 0);
        Check.due("made()", grid.made(), 0);
        Check.due("the buffer stays cleared", grid.clearBuffer(), 0);
    }

    private static final String ELEVEN = "A#E;A#E;A#E;A#E;A#E;A#E;A#E;A#E;A#E;A#E;A#E;";

    /** Texts that fill the buffer to its last character. */
    private static void promise17TakeOfFullBuffer() {
        for (String wrong : new String[] {"A|EF;A|EF;A|EF;" + ELEVEN + "A", "A|EF;A|EF;A|EF;" + ELEVEN + "x",
            "A|EF;A|EF;" + ELEVEN + "A#E;A=", "A|EF;A|EF;" + ELEVEN + "A#E;A|", "A|EF;" + ELEVEN + "A#E;A#E;A|B",
            ELEVEN + "A#E;A#E;A#E;A#E;"}) {
            ClueGrid grid = new ClueGrid();
            write(grid, wrong);
            Check.due("firstError() of 60", grid.firstError(), 60);
            Check.badArgument(grid, "take() of 60", grid::take);
            Check.due("clearBuffer()", grid.clearBuffer(), 60);
        }
        ClueGrid grid = new ClueGrid();
        write(grid, "xA0;A|EF;" + ELEVEN + "xA1;xA2");
        Check.due("take() of 60", grid.take(), 15);
        Check.due("crosses()", grid.crosses(), 3);
        write(grid, "xB0;xB1;xB2;xB3;xC0;xC1;xC2;xC3;xD0;xD1;xD2;xD3;xE0;xE1;A|EF");
        Check.due("take() of 60, but for the last part", grid.take(), 14);
        Check.due("clues()", grid.clues(), 12);
        Check.due("undo()", grid.undo(), 1);
        grid.withdraw(0);
        write(grid, "xB0;xB1;xB2;xB3;xC0;xC1;xC2;xC3;xD0;xD1;xD2;xD3;xE0;xE1;A|FL");
        Check.due("take() of 60", grid.take(), 15);
        Check.due("the last clue", Told.clue(grid, 11), "6:0,5,11@-1");
    }

    private static void promise17TakeStops() {
        ClueGrid grid = grid("xA0");
        write(grid, "B@1;xA0;C@2;xD3");
        Check.due("take() up to a cross that is there", grid.take(), 1);
        Check.due("clues()", grid.clues(), 1);
        Check.due("crosses()", grid.crosses(), 1);
        Check.due("the buffer is cleared", grid.clearBuffer(), 0);
        write(grid, "xA0");
        Check.due("take() of nothing", grid.take(), 0);
        Check.due("made()", grid.made(), 1);
        Check.due("undo() of nothing", grid.undo(), 2);
        Check.due("clues()", grid.clues(), 1);
        write(grid, "xC1;xC1");
        Check.due("take() of a cross twice", grid.take(), 1);
        write(grid, "A=E;A=E;A=E;A=E;A=E;A=E;A=E;A=E;A=E;A=E");
        Check.due("take() of ten clues", grid.take(), 10);
        write(grid, "A|EF;A=E;xC2");
        Check.due("take() up to the 13th clue", grid.take(), 1);
        Check.due("isCrossed(2, 2)", grid.isCrossed(2, 2), false);
        write(grid, "xC2;A@1;xC3");
        Check.due("take() of a cross and no clue", grid.take(), 1);
        Check.due("isCrossed(2, 2)", grid.isCrossed(2, 2), true);
        Check.due("isCrossed(2, 3)", grid.isCrossed(2, 3), false);
        Check.due("clues()", grid.clues(), 12);
        Check.due("saved states", savedStates(grid), 6);
    }

    // ---- the snapshot and undo

    private static void promise18Keep() {
        Check.about("promise 18");
        ClueGrid grid = grid("A=E;B=F;xA0");
        Check.due("keep()", grid.keep(), 2);
        Check.due("saved states, as keep is not undoable", grid.undo(), 0);
        Check.badState(grid, "undo()", grid::undo);
        Check.due("goBack() after undo()", grid.goBack(), 2);
        Check.due("crosses()", grid.crosses(), 1);
        grid.withdraw(0);
        Check.due("keep() in its place", grid.keep(), 1);
        grid.withdraw(0);
        grid.rubAllOut();
        Check.due("goBack()", grid.goBack(), 1);
        Check.due("the clue", Told.clue(grid, 0), "0:1,5,-1@-1");
        Check.due("isCrossed(0, 0)", grid.isCrossed(0, 0), true);
        Check.due("made()", grid.made(), 1);
        Check.due("crossesByAccount()", grid.crossesByAccount(), 1);
        ClueGrid empty = new ClueGrid();
        Check.due("keep() of nothing", empty.keep(), 0);
        empty.at(0, 0);
        Check.due("goBack()", empty.goBack(), 0);
    }

    private static void promise19GoBack() {
        Check.about("promise 19");
        ClueGrid grid = grid("A=E;xA0");
        Check.badState(grid, "goBack()", grid::goBack);
        grid.keep();
        write(grid, "B=F");
        long kept = grid.solutions();
        grid.rubOut(0, 0);
        grid.at(3, 3);
        isUndoable("goBack()", grid, grid::goBack);
        Check.due("goBack()", grid.goBack(), 1);
        Check.due("crosses()", grid.crosses(), 1);
        Check.due("crossesByAccount()", grid.crossesByAccount(), 1);
        Check.due("solutions()", grid.solutions(), kept);
        Check.due("the buffer is as it was", grid.firstError(), 3);
        Check.due("goBack() again, as it stays", grid.goBack(), 1);
        Check.due("undo()", grid.undo(), 4);
        Check.due("undo()", grid.undo(), 3);
        Check.due("clues()", grid.clues(), 2);
        grid.withdraw(1);
        grid.withdraw(0);
        Check.due("goBack() has its own copy", grid.goBack(), 1);
        Check.due("the clue", Told.clue(grid, 0), "0:0,4,-1@-1");
    }

    private static void promise20Undo() {
        Check.about("promise 20");
        ClueGrid grid = new ClueGrid();
        long[] digests = new long[9];
        for (int i = 0; i < 9; i++) {
            digests[i] = grid.solutions() * 100L + grid.crosses() * 10 + grid.made();
            grid.cross(i, i % 4);
        }
        for (int i = 8; i >= 3; i--) {
            Check.due("undo()", grid.undo(), i - 3);
            Check.due("what it restores", grid.solutions() * 100L + grid.crosses() * 10 + grid.made(), digests[i]);
        }
        Check.badState(grid, "undo() of what was dropped", grid::undo);
        Check.due("crosses()", grid.crosses(), 3);
        grid.rubOut(0, 0);
        Check.due("crossesByAccount()", grid.crossesByAccount(), 2);
        Check.due("undo()", grid.undo(), 0);
        Check.due("crossesByAccount()", grid.crossesByAccount(), 3);
        grid.keep();
        grid.at(0, 1);
        write(grid, "A");
        Check.due("undo()", grid.undo(), 0);
        Check.due("the buffer is as it was", grid.clearBuffer(), 1);
        Check.due("the snapshot is as it was", grid.goBack(), 0);
    }

    // ---- looks at clues and crosses

    private static void promises21To24LooksAtClues() {
        ClueGrid grid = new ClueGrid();
        Check.about("promise 21");
        Check.due("clues()", grid.clues(), 0);
        write(grid, "A=B;C#D;E<F;G~H;I@0;J!3;K|LA");
        grid.take();
        Check.due("clues()", grid.clues(), 7);
        for (int sort = 0; sort < 7; sort++) {
            Check.about("promise 22");
            Check.due("sortOf(" + sort + ")", grid.sortOf(sort), sort);
            Check.about("promise 23");
            int x = sort < 4 ? 2 * sort : sort + 4;
            Check.due("itemOf(" + sort + ", 0)", grid.itemOf(sort, 0), x);
            Check.due("itemOf(" + sort + ", 1)", grid.itemOf(sort, 1), sort == 4 || sort == 5 ? NONE : x + 1);
            Check.due("itemOf(" + sort + ", 2)", grid.itemOf(sort, 2), sort == 6 ? 0 : NONE);
            Check.about("promise 24");
            Check.due("placeOf(" + sort + ")", grid.placeOf(sort), sort == 4 ? 0 : sort == 5 ? 3 : NONE);
        }
        for (int wrong : new int[] {-1, 7, 11, 12, Integer.MIN_VALUE, Integer.MAX_VALUE}) {
            Check.about("promise 22");
            Check.outOfBounds(grid, "sortOf(" + wrong + ")", () -> grid.sortOf(wrong));
            Check.about("promise 23");
            Check.outOfBounds(grid, "itemOf(" + wrong + ", 0)", () -> grid.itemOf(wrong, 0));
            Check.about("promise 24");
            Check.outOfBounds(grid, "placeOf(" + wrong + ")", () -> grid.placeOf(wrong));
        }
        Check.about("promise 23");
        for (int wrong : new int[] {-1, 3, Integer.MIN_VALUE, Integer.MAX_VALUE}) {
            Check.outOfBounds(grid, "itemOf(0, " + wrong + ")", () -> grid.itemOf(0, wrong));
        }
    }

    private static void promises25To28LooksAtCrosses() {
        ClueGrid grid = grid("xA0;xA1;xF3;xL2", "A@0");
        Check.about("promise 25");
        for (int spot = 0; spot < 48; spot++) {
            boolean due = spot == 0 || spot == 1 || spot == 23 || spot == 46;
            Check.due("isCrossed of the spot " + spot, grid.isCrossed(spot / 4, spot % 4), due);
        }
        wrongPlaces("isCrossed", grid, (item, place) -> grid.isCrossed(item, place) ? 1 : 0);
        Check.about("promise 26");
        Check.due("crosses()", grid.crosses(), 4);
        grid.rubOut(5, 3);
        Check.due("crosses()", grid.crosses(), 3);
        Check.about("promise 27");
        Check.due("crossesByAccount()", grid.crossesByAccount(), 3);
        grid.cross(5, 3);
        grid.rubAllOut();
        grid.cross(5, 3);
        Check.due("crossesByAccount()", grid.crossesByAccount(), 1);
        Check.about("promise 28");
        Check.due("made()", grid.made(), 6);
        Check.due("settle(), 3 each of A and the kind", grid.settle(), 6);
        Check.due("made()", grid.made(), 12);
        Check.due("crossesByAccount()", grid.crossesByAccount(), 7);
        grid.undo();
        Check.due("made()", grid.made(), 6);
    }

    // ---- propagation

    private static void promise29Left() {
        Check.about("promise 29");
        Check.due("left of all", Told.left(grid("xA0;xE1;xL3")), "efffdffffff7");
        Check.due("left, with A at 0", Told.left(grid("A@0")), "1eeeffffffff");
        Check.due("left, with A alone at 0", Told.left(grid("xB0;xC0;xD0")), "1eeeffffffff");
        Check.due("left, in a row", Told.left(grid("A<E;E<I")), "3fff6fffcfff");
        Check.due("left, a row of a kind", Told.left(grid("A<B;B<C;C<D")), "1248ffffffff");
        Check.due("left, far from its place", Told.left(grid("A=E;E=I;I@3")), "877787778777");
        Check.due("left, a clue within a kind", Told.left(grid("A=B")), "ffffffffffff");
        Check.due("left, a pair of places for two", Told.left(grid("xA0;xA1;xB0;xB1")), "ccffffffffff");
        Check.due("left, with a contradiction", Told.left(grid("A@0;B@0")), "000000000000");
        Check.due("left, an item without places", Told.left(grid("xK0;xK1;xK2;xK3")), "000000000000");
        Check.due("left, a place without items", Told.left(grid("xE3;xF3;xG3;xH3")), "000000000000");
        wrongItems("left", grid("A@0"), ClueGrid::left);
    }

    private static void promise30LeftByTurns() {
        Check.about("promise 30");
        String[] texts = {"xA0", "A@0", "xB0;xC0;xD0", "A<E;E<I", "A<B;B<C;C<D", "A=E;E=I;I@3", "A=B", "A@0;B@0",
            "xK0;xK1;xK2;xK3", "xE3;xF3;xG3;xH3", "I|AB;A@3;B!3;I!3", "A~B;B~C;A!0;A!3;C@0", "A=E;E#I;I=A"};
        for (String text : texts) {
            ClueGrid grid = grid(text);
            for (int item = 0; item < 12; item++) {
                Check.due("leftByTurns(" + item + ") of " + text, grid.leftByTurns(item), grid.left(item));
            }
        }
        ClueGrid grid = grid("A=E;E=I;I@3");
        Check.due("leftByTurns(0)", grid.leftByTurns(0), 8);
        Check.due("leftByTurns(11)", grid.leftByTurns(11), 7);
        Check.due("leftByTurns(0), with a contradiction", grid("A@0;B@0").leftByTurns(8), 0);
        wrongItems("leftByTurns", grid, ClueGrid::leftByTurns);
    }

    private static void promise31Rounds() {
        Check.about("promise 31");
        Check.due("rounds(), nothing", new ClueGrid().rounds(), 0);
        Check.due("rounds(), a cross rules out nothing more", grid("xA0").rounds(), 0);
        Check.due("rounds(), A, then its kind", grid("A@0").rounds(), 2);
        Check.due("rounds(), one after the other", grid("A=E;E=I;I@3").rounds(), 4);
        Check.due("rounds(), the order of clues is nothing", grid("I@3;E=I;A=E").rounds(), 4);
        Check.due("rounds(), the need of a place", grid("xB0;xC0;xD0").rounds(), 1);
        Check.due("rounds(), two at once that both need A", grid("A@0;B@0").rounds(), 2);
        Check.due("rounds() go on, whatever is left", grid("A@0;A@1;A=E;E=I").rounds(), 3);
        Check.due("rounds(), an item without places", grid("xK0;xK1;xK2;xK3").rounds(), 0);
        Check.due("rounds(), no choice for the others", grid("xK0;xK1;xK2;xK3;A|EK;I=A").rounds(), 2);
    }

    private static void promise32IsContradiction() {
        Check.about("promise 32");
        Check.due("none", new ClueGrid().isContradiction(), false);
        Check.due("one place left", grid("xA0;xA1;xA2").isContradiction(), false);
        Check.due("an item without places", grid("xA0;xA1;xA2;xA3").isContradiction(), true);
        Check.due("a place without items of a kind", grid("xI0;xJ0;xK0;xL0").isContradiction(), true);
        Check.due("a place with items of other kinds", grid("xI0;xJ0;xK0;xA0;xE0").isContradiction(), false);
        Check.due("a place without items of the kind 0", grid("xA3;xB3;xC3;xD3").isContradiction(), true);
        Check.due("two at one place", grid("E@1;F@1").isContradiction(), true);
        Check.due("kinds at one place", grid("A@1;E@1;I@1").isContradiction(), false);
        Check.due("no solutions, but no contradiction", grid("A=B").isContradiction(), false);
        Check.due("a ring", grid("A<E;E<A").isContradiction(), true);
    }

    private static void promises33And34Fixed() {
        Check.about("promise 33");
        ClueGrid grid = grid("A@3;A=E;xL0;xL2;xL3");
        Check.due("fixedAt(0)", grid.fixedAt(0), 3);
        Check.due("fixedAt(1)", grid.fixedAt(1), NONE);
        Check.due("fixedAt(4)", grid.fixedAt(4), 3);
        Check.due("fixedAt(11)", grid.fixedAt(11), 1);
        Check.due("fixedAt(0) at 0", grid("A@0").fixedAt(0), 0);
        Check.due("fixedAt(0) at 2", grid("A@2").fixedAt(0), 2);
        Check.due("fixedAt with a contradiction", grid("A@0;B@0;E@1").fixedAt(4), NONE);
        wrongItems("fixedAt", grid, ClueGrid::fixedAt);
        Check.about("promise 34");
        Check.due("fixedItems() of none", new ClueGrid().fixedItems(), 0);
        Check.due("fixedItems()", grid.fixedItems(), 3);
        Check.due("fixedItems() with a contradiction", grid("A@0;B@0;E@1").fixedItems(), 0);
        Check.due("fixedItems() of a kind", grid("A<B;B<C;C<D").fixedItems(), 4);
        Check.due("fixedItems() of all", grid("A<B;B<C;C<D;A=E;B=F;C=G;D=H;A=I;B=J;C=K;D=L").fixedItems(), 12);
    }

    private static void promise35Hint() {
        Check.about("promise 35");
        Check.due("hint() of none", new ClueGrid().hint(), NONE);
        Check.due("hint(), A at 0", grid("A@0").hint(), 1);
        Check.due("hint(), A at 0, one crossed", grid("A@0;xA1").hint(), 2);
        Check.due("hint(), A at 0, all crossed, so B at 0", grid("A@0;xA1;xA2;xA3").hint(), 4);
        Check.due("hint(), the least item", grid("L@1;K!2").hint(), 42);
        Check.due("hint(), the last of all", grid("L!3").hint(), 47);
        Check.due("hint(), only by the first round", grid("I@0;A=I").hint(), 33);
        Check.due("hint(), with a contradiction", grid("C@0;C@1").hint(), 8);
        Check.due("hint(), all of an item crossed", grid("xA0;xA1;xA2;xA3").hint(), NONE);
        Check.due("hint(), no choice for another item", grid("xE0;xE1;xE2;xE3;F|AE").hint(), 0);
        ClueGrid grid = grid("A@0");
        long before = grid.digest();
        grid.hint();
        Check.due("digest after hint()", grid.digest(), before);
    }

    private static void promise36HintBy() {
        Check.about("promise 36");
        Check.due("hintBy() of none", new ClueGrid().hintBy(), NONE);
        Check.due("hintBy() of a clue", grid("A@0").hintBy(), 0);
        Check.due("hintBy() of the lowest clue", grid("L@3;A!2;B#C;A@2;A@1").hintBy(), 3);
        Check.due("hintBy() of the lowest clue of two", grid("B#C;A!2;A!0;A@2;A@1").hintBy(), 2);
        Check.due("hintBy() of another item", grid("xC0;xC1;xC2").hintBy(), 12);
        Check.due("hintBy() of need", grid("xB1;xC1;xD1").hintBy(), 13);
        Check.due("hintBy() of a clue ahead of another item", grid("xA0;xA1;xA2;B!3").hintBy(), 0);
        Check.due("hintBy() of another item ahead of need", grid("xA0;xA1;xA2;xC1;xD1").hintBy(), 13);
        ClueGrid full = grid("A#E;A#E;A#E;A#E;A#E;A#E", "A#E;A#E;A#E;A#E;A#E;B#F", "xL0;xL1;xL2");
        Check.due("hintBy() of none of 12 clues", full.hintBy(), 12);
        ClueGrid gone = grid("B!3", "xA0;xA1;xA2");
        gone.withdraw(0);
        Check.due("hintBy() when its clue is withdrawn", gone.hintBy(), 12);
        ClueGrid both = grid("xA0;xA1;xA2;xC0;xD0;xB1;xB2");
        Check.due("hint() ruled out in two ways", both.hint(), 7);
        Check.due("hintBy() ruled out in two ways", both.hintBy(), 12);
    }

    // ---- solutions

    private static void countDue(String text, int due) {
        ClueGrid grid = grid(text);
        Check.about("promise 37");
        Check.due("solutions() of " + text, grid.solutions(), due);
        Check.about("promise 38");
        Check.due("solutionsBySearch() of " + text, grid.solutionsBySearch(), due);
    }

    private static void promises37And38Solutions() {
        Check.about("promises 37 and 38");
        Check.due("solutions() of all", new ClueGrid().solutions(), 13824);
        Check.due("solutionsBySearch() of all", new ClueGrid().solutionsBySearch(), 13824);
        countDue("A@0", 3456);
        countDue("A!0", 10368);
        countDue("xA0", 10368);
        countDue("xA0;xA1;xA2;xA3", 0);
        countDue("xA3;xB3;xC3;xD3", 0);
        countDue("A=B", 0);
        countDue("A#B", 13824);
        countDue("A<B;B<C;C<D", 576);
        countDue("A=E;B=F;C=G;D=H", 576);
        countDue("A<B;B<C;C<D;A=E;B=F;C=G;D=H;A=I;B=J;C=K;D=L", 1);
        countDue("A<B;B<C;C<D;A=E;B=F;A=I;B=J", 4);
        countDue("A|BC", 0);
        countDue("A|BE", 3456);
        countDue("xA0;xB0;xE3;A@3", 4 * 18 * 24);
    }

    private static void promise39PlaceIn() {
        Check.about("promise 39");
        ClueGrid grid = new ClueGrid();
        for (int item = 0; item < 12; item++) {
            Check.due("placeIn(0, " + item + ")", grid.placeIn(0, item), item % 4);
            Check.due("placeIn(13823, " + item + ")", grid.placeIn(13823, item), 3 - item % 4);
            Check.due("placeIn(13824, " + item + ")", grid.placeIn(13824, item), NONE);
        }
        Check.due("placeIn(1), the last kind's last two change", grid.placeIn(1, 10) * 10 + grid.placeIn(1, 11), 32);
        Check.due("placeIn(24), the kind 1's last two change", grid.placeIn(24, 6) * 10 + grid.placeIn(24, 7), 32);
        Check.due("placeIn(576), the kind 0's last two change", grid.placeIn(576, 2) * 10 + grid.placeIn(576, 3), 32);
        Check.due("placeIn(3456, 0)", grid.placeIn(3456, 0) * 10 + grid.placeIn(3456, 1), 10);
        Check.due("placeIn(greatest)", grid.placeIn(Integer.MAX_VALUE, 0), NONE);
        Check.outOfBounds(grid, "placeIn(-1, 0)", () -> grid.placeIn(-1, 0));
        Check.outOfBounds(grid, "placeIn(least, 0)", () -> grid.placeIn(Integer.MIN_VALUE, 0));
        wrongItems("placeIn(0)", grid, (each, item) -> each.placeIn(0, item));
        wrongItems("placeIn(13824)", grid, (each, item) -> each.placeIn(13824, item));
        ClueGrid few = grid("A<B;B<C;C<D;A=E;B=F;A=I;B=J;xK3");
        Check.due("placeIn(0, 6)", few.placeIn(0, 6), 2);
        Check.due("placeIn(1, 6)", few.placeIn(1, 6), 3);
        Check.due("placeIn(1, 10)", few.placeIn(1, 10), 2);
        Check.due("placeIn(2, 6)", few.placeIn(2, 6), NONE);
        Check.due("placeIn(0, 0) without solutions", grid("A=B").placeIn(0, 0), NONE);
        orderOfAll(grid);
    }

    /** The numbers that an arrangement's places tell have to grow with its rank. */
    private static void orderOfAll(ClueGrid grid) {
        long before = -1;
        for (int rank = 0; rank < 13824; rank += rank < 60 ? 1 : 97) {
            long told = 0;
            for (int item = 0; item < 12; item++) {
                told = 4 * told + grid.placeIn(rank, item);
            }
            Check.due("the rank " + rank + " comes later", told > before, true);
            before = told;
        }
    }

    private static void promise40TrulyLeft() {
        Check.about("promise 40");
        Check.due("trulyLeft of all", Told.trulyLeft(new ClueGrid()), "ffffffffffff");
        Check.due("trulyLeft, A at 0", Told.trulyLeft(grid("A@0")), "1eeeffffffff");
        Check.due("trulyLeft without solutions", Told.trulyLeft(grid("A=B")), "000000000000");
        Check.due("trulyLeft, a pair of places for two", Told.trulyLeft(grid("xA0;xA1;xB0;xB1")), "cc33ffffffff");
        Check.due("trulyLeft, one solution", Told.trulyLeft(grid("A<B;B<C;C<D;A=E;B=F;C=G;D=H;A=I;B=J;C=K;D=L")), "124812481248");
        wrongItems("trulyLeft", grid("A@0"), ClueGrid::trulyLeft);
    }

    private static void promise41IsSpare() {
        Check.about("promise 41");
        ClueGrid grid = grid("A@0;A!1;B#C;E=A;xE0");
        Check.due("without solutions", grid.solutions(), 0);
        Check.due("isSpare(0), for then there are some", grid.isSpare(0), false);
        Check.due("isSpare(1)", grid.isSpare(1), true);
        Check.due("isSpare(2)", grid.isSpare(2), true);
        Check.due("isSpare(3), for then there are some", grid.isSpare(3), false);
        ClueGrid twice = grid("A=E;E=A;A!3");
        Check.due("isSpare(0) of two that say the same", twice.isSpare(0), true);
        Check.due("isSpare(1) of two that say the same", twice.isSpare(1), true);
        Check.due("isSpare(2)", twice.isSpare(2), false);
        twice.withdraw(1);
        Check.due("isSpare(0) after a withdrawal", twice.isSpare(0), false);
        twice.undo();
        Check.due("isSpare(0) after undo()", twice.isSpare(0), true);
        ClueGrid crossed = grid("A!0;xA0;E!0");
        Check.due("isSpare(0) of what is crossed out", crossed.isSpare(0), true);
        Check.due("isSpare(1)", crossed.isSpare(1), false);
        for (int wrong : new int[] {-1, 2, 12, Integer.MIN_VALUE, Integer.MAX_VALUE}) {
            Check.outOfBounds(crossed, "isSpare(" + wrong + ")", Check.flag(() -> crossed.isSpare(wrong)));
        }
    }

    private static void promise42Culprit() {
        Check.about("promise 42");
        Check.due("culprit() of none", new ClueGrid().culprit(), NONE);
        Check.due("culprit() with solutions", grid("A@0;B@1").culprit(), NONE);
        Check.due("culprit(), the lowest of two", grid("C!2;A@0;B@0").culprit(), 1);
        Check.due("culprit(), the only one", grid("A@0;B=C;D@1").culprit(), 1);
        Check.due("culprit(), as two are to blame", grid("A=B;C=D").culprit(), NONE);
        Check.due("culprit(), as the crosses are to blame", grid("xA0;xA1;xA2;xA3;B@0").culprit(), NONE);
        Check.due("culprit(), with crosses", grid("B@1;A@0;xA0").culprit(), 1);
        Check.due("culprit(), the first one", grid("B=C;A@0;D@1").culprit(), 0);
        Check.due("culprit(), with one solution", grid("A<B;B<C;C<D;E<F;F<G;G<H;I<J;J<K;K<L").culprit(), NONE);
        Check.due("culprit(), but for which there is one", grid("A<B;B<C;C<D;E<F;F<G;G<H;I<J;J<K;K<L;A=L").culprit(), 0);
        ClueGrid last = grid("A#E;A#E;A#E;A#E;A#E;A#E;A#E", "A#E;A#E;A#E;A#E;I=J");
        Check.due("culprit(), the last of 12", last.culprit(), 11);
    }

    private static void promise43BarredBy() {
        Check.about("promise 43");
        ClueGrid grid = grid("A=E;A#E;A<E;A~E;A@0;A!0;A|EF;A=B;A#B;A<B;A~B;A|EI");
        int[] due = {10368, 3456, 8640, 8640, 10368, 3456, 6912, 13824, 0, 6912, 6912, 13824 * 9 / 16};
        for (int i = 0; i < due.length; i++) {
            Check.due("barredBy(" + i + ")", grid.barredBy(i), due[i]);
        }
        grid.cross(0, 0);
        Check.due("barredBy(5), whatever is crossed out", grid.barredBy(5), 3456);
        Check.due("barredBy(4), whatever is crossed out", grid.barredBy(4), 10368);
        ClueGrid one = grid("A=E");
        for (int wrong : new int[] {-1, 1, 12, Integer.MIN_VALUE, Integer.MAX_VALUE}) {
            Check.outOfBounds(one, "barredBy(" + wrong + ")", () -> one.barredBy(wrong));
        }
    }

    private static void promise44IsPlain() {
        Check.about("promise 44");
        Check.due("isPlain() of none", new ClueGrid().isPlain(), true);
        Check.due("isPlain(), A at 0", grid("A@0").isPlain(), true);
        Check.due("isPlain(), a pair of places for two", grid("xA0;xA1;xB0;xB1").isPlain(), false);
        Check.due("isPlain(), the same in the last kind", grid("xK0;xK1;xL0;xL1").isPlain(), false);
        Check.due("isPlain(), nothing left and no solutions", grid("A@0;B@0").isPlain(), true);
        Check.due("isPlain(), something left and no solutions", grid("A=B").isPlain(), false);
    }

    private static void promises45And46Shares() {
        Check.about("promise 45");
        Check.due("fixedShare() of none", new ClueGrid().fixedShare(), 0.0);
        Check.due("fixedShare() of one", grid("A@0").fixedShare(), 1.0 / 12.0);
        Check.due("fixedShare() of a kind", grid("A<B;B<C;C<D").fixedShare(), 4.0 / 12.0);
        Check.due("fixedShare() of all", grid("A<B;B<C;C<D;A=E;B=F;C=G;D=H;A=I;B=J;C=K;D=L").fixedShare(), 1.0);
        Check.due("fixedShare() with a contradiction", grid("A@0;A@1").fixedShare(), 0.0);
        Check.about("promise 46");
        Check.due("meanLeft() of none", new ClueGrid().meanLeft(), 4.0f);
        Check.due("meanLeft(), one crossed", grid("xA0").meanLeft(), 47.0f / 12.0f);
        Check.due("meanLeft(), A at 0", grid("A@0").meanLeft(), 42.0f / 12.0f);
        Check.due("meanLeft() of all fixed", grid("A<B;B<C;C<D;A=E;B=F;C=G;D=H;A=I;B=J;C=K;D=L").meanLeft(), 1.0f);
        Check.due("meanLeft() with a contradiction", grid("A@0;A@1").meanLeft(), 0.0f);
    }

    // ---- the hash

    private static void promise47Digest() {
        Check.about("promise 47");
        ClueGrid grid = new ClueGrid();
        Check.due("digest()", grid.digest(), Told.digest(grid, 0, false, ""));
        grid.at(0, 2);
        grid.same(0, 4);
        Check.due("digest()", grid.digest(), Told.digest(grid, 2, false, ""));
        write(grid, "L~!z");
        grid.keep();
        Check.due("digest()", grid.digest(), Told.digest(grid, 2, true, "L~!z"));
        grid.settle();
        grid.rubAllOut();
        Check.due("digest()", grid.digest(), Told.digest(grid, 4, true, "L~!z"));
        for (int item = 0; item < 12; item++) {
            grid.rubAllOut();
            grid.cross(item, item % 4);
            Check.due("digest()", grid.digest(), Told.digest(grid, 6, true, "L~!z"));
        }
        for (String text : new String[] {"A=B", "A@0;B@0", "A<B;B<C;C<D", "A|EI;K!2;J~B", "A=E;B=F;C=G;D=H;A=I;B=J;C=K;D=L;A@0"}) {
            ClueGrid other = grid(text);
            Check.due("digest() of " + text, other.digest(), Told.digest(other, 1, false, ""));
        }
        everyShare();
    }

    /** All shares from nothing to all fixed: the bits of each are in the hash. */
    private static void everyShare() {
        ClueGrid grid = new ClueGrid();
        int saved = 0;
        for (int item = 0; item < 12; item++) {
            for (int place = 0; place < 4; place++) {
                if (place != item % 4) {
                    grid.cross(item, place);
                    saved = Math.min(6, saved + 1);
                    Check.due("digest() with " + grid.crosses() + " crosses", grid.digest(), Told.digest(grid, saved, false, ""));
                }
            }
        }
        Check.due("fixedItems()", grid.fixedItems(), 12);
    }
}
