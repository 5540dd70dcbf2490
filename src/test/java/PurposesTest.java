import java.math.BigInteger;

/**
 * What the promises say their calls are for, and the sentences of the terms that
 * name no boundary: a test for each, with answers worked out by hand, or by what
 * other calls answer when a clue is withdrawn or a cross is made.
 */
final class PurposesTest {
    private static final int NONE = ClueGrid.NONE;
    /** Texts with and without solutions, contradictions, spare clues, and items that are fixed. */
    private static final String[] TEXTS = {"A#B", "A=E;E=I;I@3", "A@0;B@0", "A=B", "A=B;C=D", "C!2;A@0;B@0;D@1", "A=E;E=A;A!3", "xA0;A!0;E!0",
        "xA0;xA1;xB0;xB1", "xA0;xA1;xB0;xB1;C@1", "xA0;xA1;xA2;xA3;B@0", "A<E;E<I;B~C;L|AB", "A|BC", "A|BE;B|AE;E@1", Cases.ALL_FIXED,
        "I|AB;A@3;B!3;I!3", "A~B;B~C;A!0;A!3;C@0", "A<B;B<C;C<D;E<F;F<G;G<H;I<J;J<K;K<L;A=L", "xK3;xL3;K!2;K=A;L=A;J#B"};

    private interface Relation {
        boolean holds(int x, int y, int z);
    }

    public static void main(String[] args) {
        Cases.runAll(PurposesTest.class);
    }

    private static String clues(ClueGrid grid) {
        StringBuilder told = new StringBuilder();
        for (int i = 0; i < grid.clues(); i++) {
            told.append(i > 0 ? " " : "").append(Told.clue(grid, i));
        }
        return told.toString();
    }

    // ---- the terms

    @Says("There are 4 places in a row, 0 to 3, and 12 items, 0 to 11, in texts \"A\" to \"L\".")
    static void promise17EachItemAndPlaceInTexts() {
        for (int spot = 0; spot < 48; spot++) {
            ClueGrid grid = Cases.grid((char) ('A' + spot / 4) + "@" + spot % 4);
            Check.due("the clue", clues(grid), "4:" + spot / 4 + ",-1,-1@" + spot % 4);
        }
    }

    @Says("The sorts of clues, of items x, y and z and a place p:")
    static void promise22TheSortOfEachMethod() {
        ClueGrid grid = new ClueGrid();
        grid.same(1, 2);
        grid.apart(3, 4);
        grid.leftOf(5, 6);
        grid.nextTo(8, 7);
        grid.at(9, 3);
        grid.notAt(10, 0);
        grid.either(11, 0, 1);
        Check.due("the clues", clues(grid), "0:1,2,-1@-1 1:3,4,-1@-1 2:5,6,-1@-1 3:8,7,-1@-1 4:9,-1,-1@3 5:10,-1,-1@0 6:11,0,1@-1");
    }

    @Says({"(a clue of the sort 0, 1, 2 or 3)", "(a clue of the sort 4 or 5)", "(a clue of the sort 6)"})
    static void promise17TheSortOfEachSign() {
        ClueGrid grid = Cases.grid("C=H;C#H;C<H;C~H;C@2;C!2;C|HL");
        Check.due("the clues", clues(grid), "0:2,7,-1@-1 1:2,7,-1@-1 2:2,7,-1@-1 3:2,7,-1@-1 4:2,-1,-1@2 5:2,-1,-1@2 6:2,7,11@-1");
    }

    @Says("The buffer is read from left to right;")
    static void promise16TheFirstOfTwoErrors() {
        String[] texts = {"A?;B?", "A=A;B?", "xA9;xx", "A=B;C@4;D@4", "?A", "C@A", "BC=", "B=A0x"};
        int[] due = {1, 2, 2, 6, 0, 2, 1, 3};
        for (int i = 0; i < texts.length; i++) {
            ClueGrid grid = new ClueGrid();
            Cases.write(grid, texts[i]);
            Check.due("firstError() of " + texts[i], grid.firstError(), due[i]);
        }
    }

    @Says("The constants: `NONE = -1`: There is nothing to return.")
    static void promise23NoneIsMinusOneWhereverItIsTold() {
        ClueGrid grid = Cases.grid("A#B;C!1");
        Check.due("NONE", ClueGrid.NONE, -1);
        Check.due("itemOf(1, 1)", grid.itemOf(1, 1), -1);
        Check.due("itemOf(0, 2)", grid.itemOf(0, 2), -1);
        Check.due("placeOf(0)", grid.placeOf(0), -1);
        Check.due("fixedAt(2)", grid.fixedAt(2), -1);
        Check.due("placeIn(10368, 0)", grid.placeIn(10368, 0), -1);
        Check.due("culprit()", grid.culprit(), -1);
        Check.due("hint()", new ClueGrid().hint(), -1);
        Check.due("hintBy()", new ClueGrid().hintBy(), -1);
    }

    // ---- promises 2 to 9: clues

    /** The clue holds in each solution, of which there are as many as arrangements in which it holds. */
    private static void holdsInEach(ClueGrid grid, int solutions, Relation relation) {
        Check.due("the number of clues", grid.clues(), 1);
        Check.due("solutions()", grid.solutions(), solutions);
        for (int rank = 0; rank < solutions; rank += 7) {
            int x = grid.placeIn(rank, 2);
            int y = grid.placeIn(rank, 7);
            int z = grid.placeIn(rank, 8);
            Check.due("holds in the solution " + rank + " with " + x + y + z, relation.holds(x, y, z), true);
        }
    }

    @Says("Adds a clue of the sort 0: two items stand at the same place.")
    static void promise2HoldsInEachSolution() {
        holdsInEach(Cases.made(grid -> grid.same(2, 7)), 3456, (x, y, z) -> x == y);
    }

    @Says("Adds a clue of the sort 1: two items do not stand at the same place.")
    static void promise3HoldsInEachSolution() {
        holdsInEach(Cases.made(grid -> grid.apart(2, 7)), 10368, (x, y, z) -> x != y);
    }

    @Says("Adds a clue of the sort 2: the one item stands left of the other one.")
    static void promise4HoldsInEachSolution() {
        holdsInEach(Cases.made(grid -> grid.leftOf(2, 7)), 5184, (x, y, z) -> x < y);
        holdsInEach(Cases.made(grid -> grid.leftOf(7, 2)), 5184, (x, y, z) -> x > y);
    }

    @Says("Adds a clue of the sort 3: two items stand at neighbouring places.")
    static void promise5HoldsInEachSolution() {
        holdsInEach(Cases.made(grid -> grid.nextTo(2, 7)), 5184, (x, y, z) -> x == y + 1 || y == x + 1);
    }

    @Says("Adds a clue of the sort 4: an item stands at a place.")
    static void promise6HoldsInEachSolution() {
        holdsInEach(Cases.made(grid -> grid.at(7, 2)), 3456, (x, y, z) -> y == 2);
    }

    @Says("Adds a clue of the sort 5: an item does not stand at a place.")
    static void promise7HoldsInEachSolution() {
        holdsInEach(Cases.made(grid -> grid.notAt(7, 2)), 10368, (x, y, z) -> y != 2);
    }

    @Says("Adds a clue of the sort 6: an item stands where one of two others stands.")
    static void promise8HoldsInEachSolution() {
        holdsInEach(Cases.made(grid -> grid.either(8, 2, 7)), 6048, (x, y, z) -> z == x || z == y);
        holdsInEach(Cases.made(grid -> grid.either(2, 8, 7)), 6048, (x, y, z) -> x == y || x == z);
    }

    @Says("Withdraws a clue.")
    static void promise9HoldsNoMore() {
        ClueGrid grid = Cases.grid("A@0;B@0;C@1");
        Check.due("solutions() with B@0", grid.solutions(), 0);
        grid.withdraw(1);
        Check.due("the clues", clues(grid), "4:0,-1,-1@0 4:2,-1,-1@1");
        Check.due("solutions() without it", grid.solutions(), 1152);
        Check.due("left of all", Told.left(grid), "1c2cffffffff");
    }

    // ---- promises 10 and 11: crosses

    @Says("Crosses a place out for an item.")
    static void promise10NoSolutionHasItThere() {
        ClueGrid grid = new ClueGrid();
        grid.cross(5, 2);
        Check.due("solutions()", grid.solutions(), 10368);
        Check.due("trulyLeft of all", Told.trulyLeft(grid), "fffffbffffff");
        Check.due("left of all", Told.left(grid), "fffffbffffff");
        grid.cross(5, 0);
        Check.due("trulyLeft of all", Told.trulyLeft(grid), "fffffaffffff");
    }

    @Says("Rubs a cross out.")
    static void promise11SolutionsHaveItThereAgain() {
        ClueGrid grid = Cases.grid("xF0;xF2;xF3");
        Check.due("left of all", Told.left(grid), "ffffd2ddffff");
        grid.rubOut(5, 2);
        Check.due("solutions()", grid.solutions(), 6912);
        Check.due("left of all", Told.left(grid), "fffff6ffffff");
        Check.due("isCrossed(5, 2)", grid.isCrossed(5, 2), false);
        Check.due("isCrossed(5, 0)", grid.isCrossed(5, 0), true);
    }

    // ---- promises 14 and 17: texts

    @Says("Appends a character to the buffer.")
    static void promise14BehindThoseThatAreThere() {
        ClueGrid grid = new ClueGrid();
        grid.append('K');
        grid.append('<');
        Check.due("append('B')", grid.append('B'), 3);
        Check.due("digest()", grid.digest(), Told.digest(grid, 0, false, "K<B"));
        grid.take();
        Check.due("the clue", clues(grid), "2:10,1,-1@-1");
    }

    @Says("Does what the buffer tells, part by part,")
    static void promise17AsTheMethodsOneByOne() {
        ClueGrid grid = Cases.grid("xA0", "xC3;A=E;xA1;B!2;L|AK;D~F;xL2;I@1;H<G;J#E");
        ClueGrid twin = new ClueGrid();
        twin.cross(0, 0);
        twin.cross(2, 3);
        twin.same(0, 4);
        twin.cross(0, 1);
        twin.notAt(1, 2);
        twin.either(11, 0, 10);
        twin.nextTo(3, 5);
        twin.cross(11, 2);
        twin.at(8, 1);
        twin.leftOf(7, 6);
        twin.apart(9, 4);
        Check.due("the state", Told.state(grid), Told.state(twin));
        Check.due("solutions()", grid.solutions(), twin.solutions());
    }

    // ---- promises 21 to 26: looks at clues and crosses

    @Says("Tells how many clues there are.")
    static void promise21AfterEachCallThatChangesThem() {
        ClueGrid grid = Cases.grid("A=E;xA0;B#F");
        Check.due("clues() after take()", grid.clues(), 2);
        grid.keep();
        grid.either(0, 1, 2);
        grid.nextTo(0, 5);
        Check.due("clues() after two more", grid.clues(), 4);
        grid.withdraw(2);
        Check.due("clues() after withdraw()", grid.clues(), 3);
        grid.cross(5, 0);
        grid.rubAllOut();
        Check.due("clues() after crosses", grid.clues(), 3);
        grid.goBack();
        Check.due("clues() after goBack()", grid.clues(), 2);
        grid.undo();
        Check.due("clues() after undo()", grid.clues(), 3);
    }

    @Says("Tells the sort of a clue.")
    static void promise22AfterAWithdrawal() {
        ClueGrid grid = Cases.grid("A|BC;D!0;E@1;F~G;H<I;J#K;L=A");
        for (int gone = 0; gone < 7; gone++) {
            for (int i = 0; i < grid.clues(); i++) {
                Check.due("sortOf(" + i + ") without " + gone, grid.sortOf(i), 6 - gone - i);
            }
            grid.withdraw(0);
        }
    }

    @Says("Tells an item of a clue.")
    static void promise23InTheOrderInWhichTheyWereTold() {
        ClueGrid grid = Cases.grid("L=B;B=L;K|DC;C|KD;H@2");
        int[][] due = {{11, 1, NONE}, {1, 11, NONE}, {10, 3, 2}, {2, 10, 3}, {7, NONE, NONE}};
        for (int i = 0; i < 15; i++) {
            Check.due("itemOf(" + i / 3 + ", " + i % 3 + ")", grid.itemOf(i / 3, i % 3), due[i / 3][i % 3]);
        }
    }

    @Says("Tells the place of a clue.")
    static void promise24AfterAWithdrawal() {
        ClueGrid grid = Cases.grid("A@3;A=B;C!0;D@1");
        grid.withdraw(0);
        int[] due = {NONE, 0, 1};
        for (int i = 0; i < 3; i++) {
            Check.due("placeOf(" + i + ")", grid.placeOf(i), due[i]);
        }
    }

    @Says("Tells whether a place is crossed out for an item.")
    static void promise25AfterEachCallThatChangesIt() {
        ClueGrid grid = Cases.grid("D@3", "xH1");
        Check.due("isCrossed(7, 1) after take()", grid.isCrossed(7, 1), true);
        Check.due("isCrossed(3, 0) ahead of settle()", grid.isCrossed(3, 0), false);
        grid.keep();
        grid.settle();
        Check.due("isCrossed(3, 0) after settle()", grid.isCrossed(3, 0), true);
        Check.due("isCrossed(3, 3) after settle()", grid.isCrossed(3, 3), false);
        grid.rubOut(7, 1);
        Check.due("isCrossed(7, 1) after rubOut()", grid.isCrossed(7, 1), false);
        grid.goBack();
        Check.due("isCrossed(7, 1) after goBack()", grid.isCrossed(7, 1), true);
        Check.due("isCrossed(3, 0) after goBack()", grid.isCrossed(3, 0), false);
        grid.undo();
        Check.due("isCrossed(3, 0) after undo()", grid.isCrossed(3, 0), true);
        grid.rubAllOut();
        Check.due("isCrossed(3, 0) after rubAllOut()", grid.isCrossed(3, 0), false);
    }

    @Says("Tells how many crosses there are, item by item.")
    static void promise26AsManyAsIsCrossedTells() {
        ClueGrid grid = Cases.grid("A=E;E=I;I@3", "xA0;xF3;xL3;xB1");
        manyAsTold(grid, 4);
        grid.settle();
        manyAsTold(grid, 19);
        grid.rubOut(0, 0);
        manyAsTold(grid, 18);
        grid.undo();
        manyAsTold(grid, 19);
        grid.rubAllOut();
        manyAsTold(grid, 0);
    }

    private static void manyAsTold(ClueGrid grid, int due) {
        int count = 0;
        for (int spot = 0; spot < 48; spot++) {
            count += grid.isCrossed(spot / 4, spot % 4) ? 1 : 0;
        }
        Check.due("what isCrossed() tells", count, due);
        Check.due("crosses()", grid.crosses(), due);
        Check.due("crossesByAccount()", grid.crossesByAccount(), due);
    }

    // ---- promises 29 to 36: propagation

    /** I at 3; then E, and J, K, L not there; then A, and F, G, H not there; then B, C, D not there. */
    @Says("Tells the places that are left for an item at the end, told round by round.")
    static void promise29EachRoundMadeByHand() {
        ClueGrid grid = Cases.grid("A=E;E=I;I@3");
        String[] rounds = {"", "xI0;xI1;xI2", "xE0;xE1;xE2;xJ3;xK3;xL3", "xA0;xA1;xA2;xF3;xG3;xH3", "xB3;xC3;xD3"};
        for (int round = 0; round < 5; round++) {
            if (round > 0) {
                Cases.write(grid, rounds[round]);
                Check.due("what the round rules out", grid.take(), rounds[round].split(";").length);
            }
            Check.due("rounds() that are left to do", grid.rounds(), 4 - round);
            Check.due("left of all", Told.left(grid), "877787778777");
        }
    }

    @Says("Tells the same by ruling out one after the other: clues and kinds are looked at by turns, each with what is left at that moment,")
    static void promise30InWhateverOrderTheCluesCame() {
        for (String text : TEXTS) {
            String[] parts = text.split(";");
            String due = Told.left(Cases.grid(text));
            for (int first = 0; first < parts.length; first++) {
                StringBuilder ahead = new StringBuilder(parts[first]);
                StringBuilder back = new StringBuilder(parts[first]);
                for (int i = 1; i < parts.length; i++) {
                    ahead.append(';').append(parts[(first + i) % parts.length]);
                    back.append(';').append(parts[(first + parts.length - i) % parts.length]);
                }
                Check.due("by turns of " + ahead, Told.leftByTurns(Cases.grid(ahead.toString())), due);
                Check.due("by turns of " + back, Told.leftByTurns(Cases.grid(back.toString())), due);
            }
        }
    }

    @Says("Tells where an item has to stand by propagation.")
    static void promise33ItCanNotStandElsewhere() {
        for (String text : TEXTS) {
            ClueGrid grid = Cases.grid(text);
            for (int item = 0; item < 12; item++) {
                int place = grid.fixedAt(item);
                if (place != NONE) {
                    Check.due("left(" + item + ") of " + text, grid.left(item), 1 << place);
                    grid.notAt(item, place);
                    Check.due("isContradiction() with " + item + " elsewhere in " + text, grid.isContradiction(), true);
                    grid.undo();
                }
            }
        }
    }

    /** Each hint is crossed out, one after the other: at the end all is that settle() crosses out. */
    @Says("Finds what could be crossed out next.")
    static void promise35OneAfterTheOtherAsSettle() {
        for (String text : TEXTS) {
            ClueGrid grid = Cases.grid(text);
            ClueGrid twin = Cases.grid(text);
            for (int i = 0; i < 48 && grid.hint() != NONE; i++) {
                grid.cross(grid.hint() / 4, grid.hint() % 4);
            }
            Check.due("isContradiction() at the end of " + text, grid.isContradiction(), twin.isContradiction());
            if (!twin.isContradiction()) {
                twin.settle();
                Check.due("the state at the end of " + text, Told.state(grid), Told.state(twin));
            }
        }
    }

    @Says("Tells by what the hint is ruled out in the first round.")
    static void promise36OneAfterTheOther() {
        ClueGrid grid = Cases.grid("A=E;E=I;I@3");
        int[] hints = {32, 16, 0, 33, 17, 1, 34, 18, 2, 7, 11, 15, 23, 27, 31, 39, 43, 47};
        int[] by = {2, 1, 0, 2, 1, 0, 2, 1, 0, 12, 12, 12, 12, 12, 12, 12, 12, 12};
        for (int i = 0; i < hints.length; i++) {
            Check.due("hint() as " + i, grid.hint(), hints[i]);
            Check.due("hintBy() as " + i, grid.hintBy(), by[i]);
            grid.cross(hints[i] / 4, hints[i] % 4);
        }
        Check.due("hint() at the end", grid.hint(), NONE);
        Check.due("hintBy() at the end", grid.hintBy(), NONE);
    }

    // ---- promises 38 to 44: solutions

    @Says("Tells the same by search: with propagation, and, where it does not fix all,")
    static void promise38WhetherPropagationFixesAllOrNot() {
        String[] texts = {Cases.ALL_FIXED, "A@0;B@0", "A=B", "A=E;B=E", "A=E;B=F;C=G;D=H", "A<B;B<C;C<D", "A<E;E<I", "A~E;E~A;A#E", "A|EI;E|AI;I|AE"};
        int[] fixed = {12, 0, 0, 0, 0, 4, 0, 0, 0};
        int[] due = {1, 0, 0, 0, 576, 576, 864, 5184, 864};
        for (int i = 0; i < texts.length; i++) {
            ClueGrid grid = Cases.grid(texts[i]);
            Check.due("fixedItems() of " + texts[i], grid.fixedItems(), fixed[i]);
            Check.due("solutionsBySearch() of " + texts[i], grid.solutionsBySearch(), due[i]);
            Check.due("solutions() of " + texts[i], grid.solutions(), due[i]);
        }
        for (String text : TEXTS) {
            ClueGrid grid = Cases.grid(text);
            Check.due("solutionsBySearch() of " + text, grid.solutionsBySearch(), grid.solutions());
        }
    }

    @Says("Tells where an item stands in a solution.")
    static void promise39AllCluesAndCrossesHoldThere() {
        ClueGrid grid = Cases.grid("A<E;E~I;B=F;L!0;J|AB;xC2;xE3");
        int count = grid.solutions();
        Check.due("there are solutions", count > 0, true);
        for (int rank = 0; rank < count; rank++) {
            String at = Told.solution(grid, rank);
            boolean isLeft = at.charAt(0) < at.charAt(4);
            boolean isNext = Math.abs(at.charAt(4) - at.charAt(8)) == 1;
            boolean isEither = at.charAt(9) == at.charAt(0) || at.charAt(9) == at.charAt(1);
            boolean isOpen = at.charAt(2) != '2' && at.charAt(4) != '3' && at.charAt(11) != '0';
            Check.due("all holds in " + at, isLeft && isNext && isEither && isOpen && at.charAt(1) == at.charAt(5), true);
            for (int kind = 0; kind < 12; kind += 4) {
                Check.due("places of a kind in " + at, at.substring(kind, kind + 4).chars().distinct().count(), 4);
            }
        }
        Check.due("the solution behind the last", Told.solution(grid, count), "------------");
    }

    @Says("Tells whether a clue can be spared.")
    static void promise41AsWhenItIsWithdrawn() {
        for (String text : TEXTS) {
            ClueGrid grid = Cases.grid(text);
            int count = grid.solutions();
            for (int clue = 0; clue < grid.clues(); clue++) {
                boolean isSpare = grid.isSpare(clue);
                grid.withdraw(clue);
                Check.due("isSpare(" + clue + ") of " + text, isSpare, grid.solutions() == count);
                grid.undo();
            }
        }
    }

    @Says({"Finds a clue that is to blame.", "Returns if there are no solutions: the lowest clue without which there would be one at least;"})
    static void promise42AsWhenItIsWithdrawn() {
        for (String text : TEXTS) {
            ClueGrid grid = Cases.grid(text);
            int due = NONE;
            for (int clue = grid.clues() - 1; clue >= 0 && grid.solutions() == 0; clue--) {
                grid.withdraw(clue);
                due = grid.solutions() > 0 ? clue : due;
                grid.undo();
            }
            Check.due("culprit() of " + text, grid.culprit(), due);
        }
    }

    @Says("Tells whether propagation tells all that can be known: whether left() is trulyLeft() for all items.")
    static void promise44AsTheTwoMasksTell() {
        for (String text : TEXTS) {
            ClueGrid grid = Cases.grid(text);
            Check.due("isPlain() of " + text, grid.isPlain(), Told.left(grid).equals(Told.trulyLeft(grid)));
        }
        Check.due("isPlain() of a chain", Cases.grid("A=E;E=I;I@3").isPlain(), true);
        Check.due("isPlain() of a hidden pair", Cases.grid("xA0;xA1;xB0;xB1").isPlain(), false);
    }

    // ---- promises 45 to 47: shares and hash

    @Says("Returns how many of the items are fixed.")
    static void promise45AsFixedAtTells() {
        for (String text : TEXTS) {
            ClueGrid grid = Cases.grid(text);
            int count = 0;
            for (int item = 0; item < 12; item++) {
                count += grid.fixedAt(item) == NONE ? 0 : 1;
            }
            Check.due("fixedItems() of " + text, grid.fixedItems(), count);
            Check.due("fixedShare() of " + text, grid.fixedShare(), (double) count / 12);
        }
    }

    @Says("Returns the mean places that are left for an item at the end.")
    static void promise46AsLeftTells() {
        for (String text : TEXTS) {
            ClueGrid grid = Cases.grid(text);
            int count = 0;
            for (int item = 0; item < 12; item++) {
                count += Integer.bitCount(grid.left(item));
            }
            Check.due("meanLeft() of " + text, grid.meanLeft(), (float) count / 12);
        }
    }

    /** The values worked out by hand, the hash without any overflow until the end. */
    private static void digestDue(ClueGrid grid, long... values) {
        BigInteger hash = BigInteger.valueOf(4217);
        for (long value : values) {
            hash = hash.multiply(BigInteger.valueOf(31)).add(BigInteger.valueOf(value));
        }
        Check.due("digest()", grid.digest(), hash.longValue());
    }

    private static long[] join(long[]... rows) {
        int length = 0;
        for (long[] row : rows) {
            length += row.length;
        }
        long[] all = new long[length];
        int at = 0;
        for (long[] row : rows) {
            System.arraycopy(row, 0, all, at, row.length);
            at += row.length;
        }
        return all;
    }

    /** For each item ten values: four crosses, left in two ways, fixedAt, trulyLeft, and two solutions. */
    private static long[] items(String crossed, String left, String truly, String first, String second) {
        long[] values = new long[120];
        for (int item = 0; item < 12; item++) {
            int mask = Character.digit(left.charAt(item), 16);
            for (int place = 0; place < 4; place++) {
                values[10 * item + place] = crossed.charAt(4 * item + place) == 'x' ? 1 : 0;
            }
            values[10 * item + 4] = mask;
            values[10 * item + 5] = mask;
            values[10 * item + 6] = mask == 1 ? 0 : mask == 2 ? 1 : mask == 4 ? 2 : mask == 8 ? 3 : -1;
            values[10 * item + 7] = Character.digit(truly.charAt(item), 16);
            values[10 * item + 8] = Character.digit(first.charAt(item), 10);
            values[10 * item + 9] = Character.digit(second.charAt(item), 10);
        }
        return values;
    }

    @Says({"Computes a hash of the whole state. The hash starts at 4217. For each value v of the following list, in order, "
        + "the hash becomes 31 * hash + v, in long arithmetic with overflow. (A boolean is 1 for true, 0 for false.)",
        "for each item isCrossed of the places 0 to 3, left, leftByTurns, fixedAt, trulyLeft, and placeIn of the ranks 0 and 1;",
        "crosses; crossesByAccount; made; rounds; isContradiction; fixedItems; hint; hintBy; solutions; solutionsBySearch; culprit; isPlain; "
            + "how many saved states there are;"})
    static void promise47EachValueByHand() {
        String open = "................................................";
        long[] all = items(open, "ffffffffffff", "ffffffffffff", "012301230123", "012301230132");
        long[] none = items(open, "ffffffffffff", "000000000000", "------------", "------------");
        digestDue(new ClueGrid(), join(new long[] {0}, all,
                new long[] {0, 0, 0, 0, 0, 0, -1, -1, 13824, 13824, -1, 1, 0, 0x0L, 0x40800000L, 0, 0}));
        digestDue(Cases.grid("A=E"), join(new long[] {1, 0, 0, 4, -1, -1, 0, 10368}, all,
                new long[] {0, 0, 0, 0, 0, 0, -1, -1, 3456, 3456, -1, 1, 1, 0x0L, 0x40800000L, 0, 0}));
        digestDue(Cases.grid("A=B"), join(new long[] {1, 0, 0, 1, -1, -1, 0, 13824}, none,
                new long[] {0, 0, 0, 0, 0, 0, -1, -1, 0, 0, 0, 0, 1, 0x0L, 0x40800000L, 0, 0}));
        ClueGrid grid = Cases.grid("A<B;B<C;C<D;E<F;F<G;G<H;I<J;J<K;K<L");
        grid.keep();
        grid.cross(0, 3);
        Cases.write(grid, "L~");
        long[] clues = {9};
        for (int kind = 0; kind < 12; kind += 4) {
            for (int item = kind; item < kind + 3; item++) {
                clues = join(clues, new long[] {2, item, item + 1, -1, -1, 0, 6912});
            }
        }
        digestDue(grid, join(clues, items("...x............................................", "124812481248", "124812481248", "012301230123", "------------"),
                new long[] {1, 1, 1, 2, 0, 12, 4, 0, 1, 1, -1, 1, 2, 0x3FF0000000000000L, 0x3F800000L, 1, 2, 76, 126}));
    }

    @Says("isContradiction; fixedItems; hint; hintBy;")
    static void promise47EachValueOfAContradictionByHand() {
        ClueGrid grid = Cases.grid("xL3;xL2", "A@0;A@1;B!3");
        grid.rubOut(11, 2);
        long[] clues = {3, 4, 0, -1, -1, 0, 0, 10368, 4, 0, -1, -1, 1, 0, 10368, 5, 1, -1, -1, 3, 1, 3456};
        long[] items = items("...............................................x", "000000000000", "000000000000", "------------", "------------");
        digestDue(grid, join(clues, items, new long[] {1, 1, 2, 1, 1, 0, 0, 1, 0, 0, 0, 1, 3, 0x0L, 0x0L, 0, 0}));
    }
}
