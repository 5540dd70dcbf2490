/** The boundary cases of the solutions, the shares and the hash: promises 37 to 47, and the terms that they rest on. */
final class SolutionsBoundariesTest {
    private static final String LOOKS = "solutions; nothing is changed";
    private static final String NO_CLUE = "Throws `IndexOutOfBoundsException` if there is no such clue";
    private static final String NO_ITEM = "Throws `IndexOutOfBoundsException` if there is no such item";
    private static final String NO_RANK = "Throws `IndexOutOfBoundsException` if rank is below 0, or there is no such item";
    private static final String SOLUTION = "A solution is an arrangement in which all clues hold, and no item stands at a place that is crossed out for it.";
    private static final String ONE_OF_EACH = "In an arrangement each item stands at one place, and at each place one item of each kind.";
    private static final String IN_ORDER = "Arrangements have an order: that one is ahead in which the place of the item 0 is less; "
            + "if it is the same, that of the item 1; and so on.";
    private static final String TELLS = "The values are: clues; for each clue sortOf, itemOf of the parts 0 to 2, placeOf, isSpare and barredBy;";
    private static final String IN_ROWS = "A<B;B<C;C<D;E<F;F<G;G<H;I<J;J<K;K<L";
    private static final String NO_PLACE = "xA0;xA1;xA2;xA3";
    private static final int NONE = ClueGrid.NONE;

    private interface ByClue {
        long look(ClueGrid grid, int clue);
    }

    private interface Add {
        int to(ClueGrid grid);
    }

    public static void main(String[] args) {
        Cases.runAll(SolutionsBoundariesTest.class);
    }

    /** Twelve clues: one at its number, and else such as hold in each arrangement. */
    private static ClueGrid withClueAt(int number, Add add) {
        ClueGrid grid = new ClueGrid();
        for (int i = 0; i < 12; i++) {
            if (i == number) {
                add.to(grid);
            } else {
                grid.apart(0, 1);
            }
        }
        return grid;
    }

    /** All is fixed by crosses: the item 4k + i is at i; but K and L are at 2 and 3 in either way, if wanted. */
    private static ClueGrid fixedByCrosses(boolean isOpenAtTheEnd) {
        ClueGrid grid = new ClueGrid();
        for (int item = 0; item < 12; item++) {
            for (int place = 0; place < 4; place++) {
                boolean isOpen = isOpenAtTheEnd && item >= 10 && place >= 2;
                if (place != item % 4 && !isOpen) {
                    grid.cross(item, place);
                }
            }
        }
        return grid;
    }

    private static void noSuchClue(ByClue look) {
        for (int wrong : new int[] {-1, 0, 12, Cases.LEAST, Cases.GREATEST}) {
            Cases.refused(Cases::nothing, "the clue " + wrong + " of none", grid -> look.look(grid, wrong), Cases.BOUNDS);
        }
        for (int wrong : new int[] {-1, 4, 5, 11, 12, Cases.LEAST, Cases.GREATEST}) {
            Cases.refused(Cases::busy, "the clue " + wrong + " of four", grid -> look.look(grid, wrong), Cases.BOUNDS);
        }
        for (int wrong : new int[] {-1, 12, 13, Cases.LEAST, Cases.GREATEST}) {
            Cases.refused(Cases::full, "the clue " + wrong + " of twelve", grid -> look.look(grid, wrong), Cases.BOUNDS);
        }
        Cases.refused(Cases::nearlyFull, "the clue 11 of eleven", grid -> look.look(grid, 11), Cases.BOUNDS);
    }

    // ---- promises 37 and 38: solutions, solutionsBySearch

    @Says("Returns how many.")
    static void promise37ReturnsFrom0To13824() {
        Check.due("solutions() of nothing", new ClueGrid().solutions(), 13824);
        Check.due("solutions() without a place for A", Cases.grid(NO_PLACE).solutions(), 0);
        Check.due("solutions() of all fixed", Cases.grid(Cases.ALL_FIXED).solutions(), 1);
        Check.due("solutions() of three rows", Cases.grid(IN_ROWS).solutions(), 1);
        Check.due("solutions() of crosses that leave one", fixedByCrosses(false).solutions(), 1);
        Check.due("solutions() of crosses that leave two", fixedByCrosses(true).solutions(), 2);
        Check.due("solutions() of clues that always hold", Cases.grid("A#B;E#F;I#L").solutions(), 13824);
    }

    @Says(SOLUTION)
    static void promise37EachCrossCounts() {
        for (int spot = 0; spot < 48; spot++) {
            ClueGrid grid = new ClueGrid();
            grid.cross(spot / 4, spot % 4);
            Check.due("solutions() with the spot " + spot + " crossed", grid.solutions(), 10368);
            grid.rubOut(spot / 4, spot % 4);
            Check.due("solutions() when it is rubbed out", grid.solutions(), 13824);
        }
    }

    @Says(SOLUTION)
    static void promise37EachClueCounts() {
        for (int number = 0; number < 12; number++) {
            Check.due("solutions() with A@0 as " + number, withClueAt(number, grid -> grid.at(0, 0)).solutions(), 3456);
            Check.due("solutions() with A=B as " + number, withClueAt(number, grid -> grid.same(0, 1)).solutions(), 0);
        }
    }

    @Says("Tells how many solutions there are, by trying all arrangements.")
    static void promise37AfterEachChange() {
        ClueGrid grid = new ClueGrid();
        grid.at(0, 0);
        Check.due("solutions() after at()", grid.solutions(), 3456);
        grid.keep();
        grid.cross(4, 0);
        Check.due("solutions() after cross()", grid.solutions(), 2592);
        grid.withdraw(0);
        Check.due("solutions() after withdraw()", grid.solutions(), 10368);
        grid.undo();
        Check.due("solutions() after undo()", grid.solutions(), 2592);
        grid.goBack();
        Check.due("solutions() after goBack()", grid.solutions(), 3456);
        Cases.write(grid, "xI3;E@1");
        grid.take();
        Check.due("solutions() after take()", grid.solutions(), 648);
        grid.rubAllOut();
        Check.due("solutions() after rubAllOut()", grid.solutions(), 864);
        grid.settle();
        grid.withdraw(0);
        grid.withdraw(0);
        Check.due("solutions() after settle(), without the clues", grid.solutions(), 864);
    }

    @Says(LOOKS)
    static void promise37ChangesNothing() {
        Cases.changesNothing("solutions()", ClueGrid::solutions);
    }

    @Says("Returns how many, the same as solutions().")
    static void promise38ReturnsFrom0To13824() {
        Check.due("by search, of nothing", new ClueGrid().solutionsBySearch(), 13824);
        Check.due("by search, without a place for A", Cases.grid(NO_PLACE).solutionsBySearch(), 0);
        Check.due("by search, of all fixed", Cases.grid(Cases.ALL_FIXED).solutionsBySearch(), 1);
        Check.due("by search, of three rows", Cases.grid(IN_ROWS).solutionsBySearch(), 1);
        Check.due("by search, of crosses that leave one", fixedByCrosses(false).solutionsBySearch(), 1);
        Check.due("by search, of crosses that leave two", fixedByCrosses(true).solutionsBySearch(), 2);
        Check.due("by search, of clues that always hold", Cases.grid("A#B;E#F;I#L").solutionsBySearch(), 13824);
        Check.due("by search, of A=B", Cases.grid("A=B").solutionsBySearch(), 0);
        Check.due("by search, of A=E and B=E", Cases.grid("A=E;B=E").solutionsBySearch(), 0);
    }

    @Says("by trying each place that is left for the first item that is not fixed")
    static void promise38EachPlaceOfEachItem() {
        for (int spot = 0; spot < 48; spot++) {
            ClueGrid grid = new ClueGrid();
            grid.cross(spot / 4, spot % 4);
            Check.due("by search, with the spot " + spot + " crossed", grid.solutionsBySearch(), 10368);
        }
        for (int number = 0; number < 12; number++) {
            Check.due("by search, with A@0 as " + number, withClueAt(number, grid -> grid.at(0, 0)).solutionsBySearch(), 3456);
            Check.due("by search, with A=B as " + number, withClueAt(number, grid -> grid.same(0, 1)).solutionsBySearch(), 0);
        }
    }

    @Says(LOOKS)
    static void promise38ChangesNothing() {
        Cases.changesNothing("solutionsBySearch()", ClueGrid::solutionsBySearch);
    }

    // ---- promise 39: placeIn

    /** The orders of a kind, the one with the lesser places of its first items ahead. */
    private static String[] orders() {
        String[] orders = new String[24];
        int count = 0;
        for (int number = 0; number < 256; number++) {
            String places = "" + number / 64 + number / 16 % 4 + number / 4 % 4 + number % 4;
            if (places.chars().distinct().count() == 4) {
                orders[count] = places;
                count++;
            }
        }
        return orders;
    }

    @Says({ONE_OF_EACH, IN_ORDER, "- `rank`: 0 for the first solution in the order of arrangements"})
    static void promise39TheOrderOfAll() {
        ClueGrid grid = new ClueGrid();
        String[] orders = orders();
        for (int rank = 0; rank < 13824; rank += rank < 50 || rank >= 13770 ? 1 : 23) {
            String due = orders[rank / 576] + orders[rank / 24 % 24] + orders[rank % 24];
            Check.due("the solution " + rank, Told.solution(grid, rank), due);
        }
        Check.due("the last solution", Told.solution(grid, 13823), "321032103210");
    }

    @Says({"- `item`: 0 to 11", "Returns the place"})
    static void promise39EachItem() {
        ClueGrid grid = fixedByCrosses(true);
        Check.due("the solution 0", Told.solution(grid, 0), "012301230123");
        Check.due("the solution 1", Told.solution(grid, 1), "012301230132");
    }

    @Says("0 for the first solution in the order of arrangements")
    static void promise39RanksAmongSolutionsAlone() {
        ClueGrid grid = Cases.grid("A<B;B<C;C<D;I<J;J<K;K<L");
        String[] orders = orders();
        for (int rank = 0; rank < 24; rank++) {
            Check.due("the solution " + rank, Told.solution(grid, rank), "0123" + orders[rank] + "0123");
        }
        Check.due("the solution 24", Told.solution(grid, 24), "------------");
    }

    @Says(SOLUTION)
    static void promise39OnlyWhereEachClueHolds() {
        for (int number = 0; number < 12; number++) {
            ClueGrid grid = withClueAt(number, each -> each.at(0, 3));
            Check.due("the first solution", Told.solution(grid, 0), "301201230123");
            Check.due("the last solution", Told.solution(grid, 3455), "321032103210");
            Check.due("one more", Told.solution(grid, 3456), "------------");
        }
    }

    @Says(SOLUTION)
    static void promise39OnlyWhereNothingIsCrossedOut() {
        String[] orders = orders();
        for (int spot = 0; spot < 48; spot++) {
            int item = spot / 4;
            int place = spot % 4;
            ClueGrid grid = new ClueGrid();
            grid.cross(item, place);
            String first = "";
            String last = "";
            for (String order : orders) {
                boolean isOpen = order.charAt(item % 4) - '0' != place;
                first = isOpen && first.isEmpty() ? order : first;
                last = isOpen ? order : last;
            }
            Check.due("the first solution", Told.solution(grid, 0), inKind(item / 4, first, "0123"));
            Check.due("the last solution", Told.solution(grid, 10367), inKind(item / 4, last, "3210"));
            Check.due("one more", Told.solution(grid, 10368), "------------");
        }
    }

    private static String inKind(int kind, String order, String others) {
        return (kind == 0 ? order : others) + (kind == 1 ? order : others) + (kind == 2 ? order : others);
    }

    @Says("NONE if there are not so many solutions.")
    static void promise39NotSoMany() {
        String none = "------------";
        Check.due("13824 of nothing", Told.solution(new ClueGrid(), 13824), none);
        Check.due("the greatest of nothing", Told.solution(new ClueGrid(), Cases.GREATEST), none);
        Check.due("1 of one", Told.solution(fixedByCrosses(false), 1), none);
        Check.due("0 of one", Told.solution(fixedByCrosses(false), 0), "012301230123");
        Check.due("2 of two", Told.solution(fixedByCrosses(true), 2), none);
        Check.due("0 of none", Told.solution(Cases.grid(NO_PLACE), 0), none);
        Check.due("0 of none, without a contradiction", Told.solution(Cases.grid("A=B"), 0), none);
    }

    @Says(NO_RANK)
    static void promise39RankBelow0() {
        for (int wrong : new int[] {-1, -2, -13824, Cases.LEAST}) {
            for (int item : new int[] {0, 11}) {
                Cases.refused(Cases::nothing, "the rank " + wrong, grid -> grid.placeIn(wrong, item), Cases.BOUNDS);
                Cases.refused(Cases::busy, "the rank " + wrong, grid -> grid.placeIn(wrong, item), Cases.BOUNDS);
            }
        }
    }

    @Says(NO_RANK)
    static void promise39NoSuchItem() {
        for (int wrong : Cases.NO_ITEMS) {
            for (int rank : new int[] {0, 13823, 13824, Cases.GREATEST, -1}) {
                Cases.refused(Cases::nothing, "the item " + wrong, grid -> grid.placeIn(rank, wrong), Cases.BOUNDS);
            }
            Cases.refused(Cases::busy, "the item " + wrong, grid -> grid.placeIn(0, wrong), Cases.BOUNDS);
            Cases.refused(grid -> grid.same(0, 1), "the item " + wrong + " without solutions", grid -> grid.placeIn(0, wrong), Cases.BOUNDS);
        }
    }

    @Says(LOOKS)
    static void promise39ChangesNothing() {
        Cases.changesNothing("placeIn(0, 11)", grid -> grid.placeIn(0, 11));
    }

    // ---- promise 40: trulyLeft

    @Says({"- `item`: 0 to 11", "Returns the places, as a mask; 0 without solutions."})
    static void promise40EachMaskOfEachItem() {
        for (int item = 0; item < 12; item++) {
            for (int mask = 0; mask < 16; mask++) {
                ClueGrid grid = new ClueGrid();
                for (int place = 0; place < 4; place++) {
                    if ((mask >> place & 1) == 0) {
                        grid.cross(item, place);
                    }
                }
                Check.due("trulyLeft(" + item + ")", grid.trulyLeft(item), mask);
            }
        }
    }

    @Says("0 without solutions.")
    static void promise40NothingWithoutSolutions() {
        for (String text : new String[] {NO_PLACE, "A=B", "A=E;B=E", "L@0;L@1"}) {
            Check.due("trulyLeft of all of " + text, Told.trulyLeft(Cases.grid(text)), "000000000000");
        }
    }

    @Says("Tells where an item stands in some solution.")
    static void promise40OfOneAndTwoSolutions() {
        Check.due("trulyLeft of all of one", Told.trulyLeft(fixedByCrosses(false)), "124812481248");
        Check.due("trulyLeft of all of two", Told.trulyLeft(fixedByCrosses(true)), "1248124812cc");
        Check.due("trulyLeft of all of all", Told.trulyLeft(new ClueGrid()), "ffffffffffff");
        Check.due("trulyLeft, two for two places", Told.trulyLeft(Cases.grid("xK0;xK1;xL0;xL1")), "ffffffff33cc");
    }

    @Says("Tells where an item stands in some solution.")
    static void promise40AfterEachChange() {
        ClueGrid grid = new ClueGrid();
        Check.due("trulyLeft(0) of nothing", grid.trulyLeft(0), 15);
        grid.at(0, 0);
        Check.due("trulyLeft(0) after at()", grid.trulyLeft(0), 1);
        grid.same(0, 1);
        Check.due("trulyLeft(0) after same()", grid.trulyLeft(0), 0);
        grid.withdraw(0);
        grid.withdraw(0);
        Check.due("trulyLeft(0) after withdraw()", grid.trulyLeft(0), 15);
        grid.keep();
        grid.cross(0, 3);
        Check.due("trulyLeft(0) after cross()", grid.trulyLeft(0), 7);
        grid.goBack();
        Check.due("trulyLeft(0) after goBack()", grid.trulyLeft(0), 15);
        grid.undo();
        Check.due("trulyLeft(0) after undo()", grid.trulyLeft(0), 7);
        grid.rubAllOut();
        Check.due("trulyLeft(0) after rubAllOut()", grid.trulyLeft(0), 15);
    }

    @Says(NO_ITEM)
    static void promise40NoSuchItem() {
        for (int wrong : Cases.NO_ITEMS) {
            Cases.refused(Cases::nothing, "the item " + wrong, grid -> grid.trulyLeft(wrong), Cases.BOUNDS);
            Cases.refused(Cases::busy, "the item " + wrong, grid -> grid.trulyLeft(wrong), Cases.BOUNDS);
            Cases.refused(grid -> grid.same(0, 1), "the item " + wrong + " without solutions", grid -> grid.trulyLeft(wrong), Cases.BOUNDS);
        }
    }

    @Says(LOOKS)
    static void promise40ChangesNothing() {
        Cases.changesNothing("trulyLeft(11)", grid -> grid.trulyLeft(11));
    }

    // ---- promise 41: isSpare

    @Says({"- `clue`: its number", "Returns whether there would be as many solutions without it."})
    static void promise41EachOfTwelve() {
        for (int number = 0; number < 12; number++) {
            ClueGrid grid = withClueAt(number, each -> each.at(0, 0));
            for (int clue = 0; clue < 12; clue++) {
                Check.due("isSpare(" + clue + ") with A@0 as " + number, grid.isSpare(clue), clue != number);
            }
        }
    }

    @Says("as many solutions without it")
    static void promise41OneSolutionLess() {
        ClueGrid grid = fixedByCrosses(true);
        grid.notAt(10, 3);
        Check.due("isSpare(0), one of two is barred", grid.isSpare(0), false);
        grid.notAt(10, 2);
        Check.due("isSpare(0), the other one is barred by the next", grid.isSpare(0), false);
        Check.due("isSpare(1)", grid.isSpare(1), false);
        ClueGrid fixed = fixedByCrosses(false);
        fixed.at(11, 3);
        Check.due("isSpare(0) of what the crosses tell", fixed.isSpare(0), true);
    }

    @Says("as many solutions without it")
    static void promise41NoSolutionsEitherWay() {
        ClueGrid grid = Cases.grid("A=B;C=D;A#E");
        for (int clue = 0; clue < 3; clue++) {
            Check.due("isSpare(" + clue + ")", grid.isSpare(clue), true);
        }
        Check.due("isSpare(0), none with it alone", Cases.grid("A=B").isSpare(0), false);
        Check.due("isSpare(0), none by the crosses", Cases.grid("A=B;" + NO_PLACE).isSpare(0), true);
    }

    @Says(NO_CLUE)
    static void promise41NoSuchClue() {
        noSuchClue((grid, clue) -> grid.isSpare(clue) ? 1 : 0);
    }

    @Says(LOOKS)
    static void promise41ChangesNothing() {
        Cases.changesNothing(Cases::full, "isSpare(11)", grid -> grid.isSpare(11) ? 1 : 0);
    }

    // ---- promise 42: culprit

    @Says("the lowest clue without which there would be one at least")
    static void promise42ReturnsFrom0To11() {
        for (int number = 0; number < 12; number++) {
            Check.due("culprit() with A=B as " + number, withClueAt(number, grid -> grid.same(0, 1)).culprit(), number);
        }
    }

    @Says("the lowest clue")
    static void promise42TheLowestOfSeveral() {
        for (int number = 0; number < 11; number++) {
            ClueGrid grid = withClueAt(number, each -> each.at(0, 0));
            grid.withdraw(11);
            grid.at(1, 0);
            Check.due("culprit() with A@0 as " + number, grid.culprit(), number);
        }
    }

    @Says("without which there would be one at least")
    static void promise42JustOneSolution() {
        ClueGrid grid = fixedByCrosses(false);
        grid.notAt(11, 3);
        Check.due("culprit() with one solution without it", grid.culprit(), 0);
        grid.notAt(10, 2);
        Check.due("culprit() with none without it", grid.culprit(), NONE);
    }

    @Says("NONE if there is no such clue, or there are solutions.")
    static void promise42None() {
        Check.due("culprit() of nothing", new ClueGrid().culprit(), NONE);
        Check.due("culprit() with one solution", Cases.grid(IN_ROWS).culprit(), NONE);
        Check.due("culprit() with many", Cases.grid("A@0").culprit(), NONE);
        Check.due("culprit() of crosses alone", Cases.grid(NO_PLACE).culprit(), NONE);
        Check.due("culprit() of crosses and a clue", Cases.grid("B@0;" + NO_PLACE).culprit(), NONE);
        Check.due("culprit() of two on their own", Cases.grid("A=B;E=F").culprit(), NONE);
    }

    @Says(LOOKS)
    static void promise42ChangesNothing() {
        Cases.changesNothing("culprit()", ClueGrid::culprit);
    }

    // ---- promise 43: barredBy

    @Says({"Returns how many of all 13824.", "- `clue`: its number"})
    static void promise43ReturnsFrom0To13824() {
        ClueGrid grid = Cases.grid("A#B;A=B;L|KJ;A=E;A#E;A<E;A~E;A@0;A!0;A|EF;A|BE;L!3");
        int[] due = {0, 13824, 13824, 10368, 3456, 8640, 8640, 10368, 3456, 6912, 10368, 3456};
        for (int clue = 0; clue < 12; clue++) {
            Check.due("barredBy(" + clue + ")", grid.barredBy(clue), due[clue]);
        }
    }

    @Says("Tells in how many arrangements a clue does not hold, whatever is crossed out.")
    static void promise43WhateverIsCrossedOut() {
        ClueGrid grid = Cases.grid("A@0;A=B;A#B;A=E");
        for (int spot = 0; spot < 48; spot++) {
            grid.cross(spot / 4, spot % 4);
        }
        int[] due = {10368, 13824, 0, 10368};
        for (int clue = 0; clue < 4; clue++) {
            Check.due("barredBy(" + clue + ") with all crossed", grid.barredBy(clue), due[clue]);
        }
    }

    @Says(NO_CLUE)
    static void promise43NoSuchClue() {
        noSuchClue(ClueGrid::barredBy);
    }

    @Says(LOOKS)
    static void promise43ChangesNothing() {
        Cases.changesNothing(Cases::full, "barredBy(11)", grid -> grid.barredBy(11));
    }

    // ---- promise 44: isPlain

    @Says({"whether left() is trulyLeft() for all items", "Returns whether that is so."})
    static void promise44AllOrNothingLeft() {
        Check.due("isPlain() of nothing", new ClueGrid().isPlain(), true);
        Check.due("isPlain() of one solution", fixedByCrosses(false).isPlain(), true);
        Check.due("isPlain() of two solutions", fixedByCrosses(true).isPlain(), true);
        Check.due("isPlain() with a contradiction", Cases.grid(NO_PLACE).isPlain(), true);
        Check.due("isPlain() without solutions, with all left", Cases.grid("A=B").isPlain(), false);
    }

    @Says("for all items")
    static void promise44TwoItemsOfEachKind() {
        for (int kind = 0; kind < 3; kind++) {
            for (int first = 0; first < 4; first += 2) {
                ClueGrid grid = new ClueGrid();
                for (int i = 0; i < 4; i++) {
                    grid.cross(4 * kind + first + i / 2, i % 2);
                }
                Check.due("isPlain(), two for the places 2 and 3", grid.isPlain(), false);
            }
        }
    }

    @Says(LOOKS)
    static void promise44ChangesNothing() {
        Cases.changesNothing("isPlain()", grid -> grid.isPlain() ? 1 : 0);
    }

    // ---- promises 45 and 46: fixedShare, meanLeft

    @Says("Returns fixedItems() as a double, divided by 12.")
    static void promise45ReturnsFrom0To1() {
        ClueGrid grid = new ClueGrid();
        int[] due = {1, 2, 4, 4, 5, 6, 8, 8, 9, 10, 12, 12};
        Check.due("fixedShare() of nothing", grid.fixedShare(), 0.0);
        for (int item = 0; item < 12; item++) {
            for (int place = 0; place < 4; place++) {
                if (place != item % 4) {
                    grid.cross(item, place);
                }
            }
            Check.due("fixedShare()", grid.fixedShare(), due[item] / 12.0);
        }
        Check.due("fixedShare() of all", grid.fixedShare(), 1.0);
        Check.due("fixedShare() with a contradiction", Cases.grid("A@0;B@0;E@1").fixedShare(), 0.0);
    }

    @Says(LOOKS)
    static void promise45ChangesNothing() {
        Cases.changesNothing("fixedShare()", grid -> (long) grid.fixedShare());
    }

    /** Crosses that rule out nothing more: two at most of an item, and two at most of a place in a kind. */
    @Says("Returns the places that are left for all items together as a float, divided by 12.")
    static void promise46ReturnsFrom0To4() {
        ClueGrid grid = new ClueGrid();
        Check.due("meanLeft() of nothing", grid.meanLeft(), 4.0f);
        for (int count = 1; count <= 12; count++) {
            grid.cross(count - 1, (count - 1) % 4);
            Check.due("meanLeft() with " + count + " crosses", grid.meanLeft(), (48 - count) / 12.0f);
        }
        Check.due("meanLeft() of all fixed", Cases.grid(Cases.ALL_FIXED).meanLeft(), 1.0f);
        Check.due("meanLeft() of all but two fixed", fixedByCrosses(true).meanLeft(), 14.0f / 12.0f);
        Check.due("meanLeft() with a contradiction", Cases.grid(NO_PLACE).meanLeft(), 0.0f);
    }

    @Says(LOOKS)
    static void promise46ChangesNothing() {
        Cases.changesNothing("meanLeft()", grid -> (long) grid.meanLeft());
    }

    // ---- promise 47: digest

    private static void told(ClueGrid grid, int saved, boolean hasSnapshot, String buffer) {
        Check.due("digest()", grid.digest(), Told.digest(grid, saved, hasSnapshot, buffer));
    }

    @Says({"The hash starts at 4217.", "Returns the hash."})
    static void promise47OfANewObject() {
        told(new ClueGrid(), 0, false, "");
    }

    @Says(TELLS)
    static void promise47EachNumberOfClues() {
        ClueGrid grid = new ClueGrid();
        String[] texts = {"L=A", "A#L", "L<A", "A~L", "A@0", "L!3", "A|KL", "L|BA", "A#B", "A#B", "K@3", "I=J"};
        for (int count = 1; count <= 12; count++) {
            Cases.write(grid, texts[count - 1]);
            grid.take();
            Check.due("clues()", grid.clues(), count);
            told(grid, Math.min(count, 6), false, "");
        }
    }

    @Says("how many saved states there are")
    static void promise47EachNumberOfSavedStates() {
        ClueGrid grid = new ClueGrid();
        for (int calls = 1; calls <= 8; calls++) {
            grid.rubAllOut();
            told(grid, Math.min(calls, 6), false, "");
        }
        for (int saved = 5; saved >= 0; saved--) {
            grid.undo();
            told(grid, saved, false, "");
        }
    }

    @Says("1 if there is a snapshot, otherwise 0")
    static void promise47WithAndWithoutASnapshot() {
        ClueGrid grid = new ClueGrid();
        told(grid, 0, false, "");
        grid.keep();
        told(grid, 0, true, "");
        grid.at(0, 0);
        grid.undo();
        told(grid, 0, true, "");
        grid.goBack();
        told(grid, 1, true, "");
    }

    @Says("the length of the buffer and each of its character codes")
    static void promise47EachLengthOfTheBuffer() {
        ClueGrid grid = new ClueGrid();
        StringBuilder text = new StringBuilder();
        for (int length = 1; length <= 60; length++) {
            int code = length % 2 == 0 ? 33 + length : 127 - length;
            grid.append(code);
            text.append((char) code);
            told(grid, 0, false, text.toString());
        }
        grid.clearBuffer();
        told(grid, 0, false, "");
    }

    @Says("placeIn of the ranks 0 and 1")
    static void promise47NoOneTwoAndAllSolutions() {
        told(fixedByCrosses(false), 6, false, "");
        told(fixedByCrosses(true), 6, false, "");
        told(Cases.grid("A=B"), 1, false, "");
        told(Cases.grid(NO_PLACE), 1, false, "");
        told(Cases.grid("A=E;E=I;I@3;A!3"), 1, false, "");
    }

    @Says("the bits of fixedShare (as Double.doubleToLongBits); the bits of meanLeft (as Float.floatToIntBits)")
    static void promise47TheBitsOfEachShare() {
        ClueGrid grid = new ClueGrid();
        int calls = 0;
        for (int spot = 0; spot < 48; spot++) {
            int place = (spot + spot / 4) % 4;
            if (place != spot / 4 % 4) {
                grid.cross(spot / 4, place);
                calls++;
                told(grid, Math.min(calls, 6), false, "");
            }
        }
        Check.due("fixedShare() at the end", grid.fixedShare(), 1.0);
        grid.at(0, 3);
        Check.due("fixedShare() with a contradiction", grid.fixedShare(), 0.0);
        told(grid, 6, false, "");
    }

    /** What a look has found out must not be told any more after a call that changes something. */
    @Says(LOOKS)
    static void promise47NoLookIsToldLater() {
        Cases.Call[] changes = {grid -> grid.same(0, 4), grid -> grid.apart(3, 9), grid -> grid.leftOf(1, 2), grid -> grid.nextTo(8, 11),
            grid -> grid.at(4, 2), grid -> grid.notAt(7, 0), grid -> grid.either(1, 6, 10), grid -> grid.withdraw(1),
            grid -> grid.cross(11, 0), grid -> grid.rubOut(0, 0), ClueGrid::rubAllOut, ClueGrid::settle, ClueGrid::take,
            ClueGrid::goBack, ClueGrid::undo};
        for (int i = 0; i < changes.length; i++) {
            ClueGrid grid = Cases.made(SolutionsBoundariesTest::someClues);
            ClueGrid twin = Cases.made(SolutionsBoundariesTest::someClues);
            grid.digest();
            Check.due("the change " + i, changes[i].on(grid), changes[i].on(twin));
            Check.due("digest() after looks and the change " + i, grid.digest(), twin.digest());
            Check.due("trulyLeft of all after it", Told.trulyLeft(grid), Told.trulyLeft(twin));
        }
    }

    private static void someClues(ClueGrid grid) {
        grid.cross(0, 0);
        grid.keep();
        grid.leftOf(5, 10);
        grid.apart(4, 5);
        grid.notAt(3, 3);
        Cases.write(grid, "C@1;xH0");
    }

    @Says(LOOKS)
    static void promise47ChangesNothing() {
        Cases.changesNothing("digest()", ClueGrid::digest);
    }
}
