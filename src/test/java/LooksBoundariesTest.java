/** The boundary cases of the looks at clues and crosses: promises 21 to 28. */
final class LooksBoundariesTest {
    private static final String LOOKS = "looks at clues and crosses; nothing is changed";
    private static final String NO_CLUE = "Throws `IndexOutOfBoundsException` if there is no such clue";
    private static final String NO_PART = "Throws `IndexOutOfBoundsException` if there is no such clue, or part is not 0 to 2";
    private static final String EACH_SORT = "A=B;C#D;E<F;G~H;I@0;J!3;K|LA";
    private static final int NONE = ClueGrid.NONE;

    private interface Look {
        long at(ClueGrid grid, int clue);
    }

    public static void main(String[] args) {
        Cases.runAll(LooksBoundariesTest.class);
    }

    private static void noSuchClue(Look look) {
        for (int wrong : new int[] {-1, 0, 1, 12, Cases.LEAST, Cases.GREATEST}) {
            Cases.refused(Cases::nothing, "the clue " + wrong + " of none", grid -> look.at(grid, wrong), Cases.BOUNDS);
        }
        for (int wrong : new int[] {-1, 4, 5, 11, 12, Cases.LEAST, Cases.GREATEST}) {
            Cases.refused(Cases::busy, "the clue " + wrong + " of four", grid -> look.at(grid, wrong), Cases.BOUNDS);
        }
        for (int wrong : new int[] {-1, 12, 13, Cases.LEAST, Cases.GREATEST}) {
            Cases.refused(Cases::full, "the clue " + wrong + " of twelve", grid -> look.at(grid, wrong), Cases.BOUNDS);
        }
        Cases.refused(grid -> {
            Cases.full(grid);
            grid.withdraw(0);
        }, "the clue 11 of eleven", grid -> look.at(grid, 11), Cases.BOUNDS);
    }

    // ---- promise 21: clues

    @Says("Returns how many.")
    static void promise21ReturnsFrom0To12() {
        ClueGrid grid = new ClueGrid();
        for (int count = 0; count < 12; count++) {
            Check.due("clues()", grid.clues(), count);
            grid.notAt(count, 0);
        }
        Check.due("clues()", grid.clues(), 12);
        Check.due("a 13th", Check.outcome(() -> grid.notAt(0, 0)), Cases.STATE);
        Check.due("clues() as before", grid.clues(), 12);
        for (int count = 11; count >= 0; count--) {
            grid.withdraw(count);
            Check.due("clues()", grid.clues(), count);
        }
    }

    @Says("Returns how many.")
    static void promise21AlikeOnesCountEach() {
        Check.due("clues()", Cases.grid("A=B;A=B;B=A;A=B").clues(), 4);
    }

    @Says(LOOKS)
    static void promise21ChangesNothing() {
        Cases.changesNothing("clues()", ClueGrid::clues);
    }

    // ---- promise 22: sortOf

    @Says({"Returns the sort, 0 to 6.", "- `clue`: its number"})
    static void promise22ReturnsFrom0To6() {
        ClueGrid grid = Cases.grid(EACH_SORT);
        for (int sort = 0; sort < 7; sort++) {
            Check.due("sortOf(" + sort + ")", grid.sortOf(sort), sort);
        }
        ClueGrid full = Cases.grid("A|BC;A#E;A#E;A#E;A#E;A#E;A#E;A#E;A#E;A#E;A#E;L=K");
        Check.due("sortOf(0) of twelve", full.sortOf(0), 6);
        Check.due("sortOf(11) of twelve", full.sortOf(11), 0);
    }

    @Says(NO_CLUE)
    static void promise22NoSuchClue() {
        noSuchClue(ClueGrid::sortOf);
    }

    @Says(LOOKS)
    static void promise22ChangesNothing() {
        Cases.changesNothing(Cases::full, "sortOf(11)", grid -> grid.sortOf(11));
    }

    // ---- promise 23: itemOf

    @Says({"Returns the item; NONE if the clue has no such one.", "- `part`: 0 for x, 1 for y, 2 for z"})
    static void promise23EachPartOfEachSort() {
        ClueGrid grid = Cases.grid(EACH_SORT);
        int[][] due = {{0, 1, NONE}, {2, 3, NONE}, {4, 5, NONE}, {6, 7, NONE}, {8, NONE, NONE}, {9, NONE, NONE}, {10, 11, 0}};
        for (int clue = 0; clue < 7; clue++) {
            for (int part = 0; part < 3; part++) {
                Check.due("itemOf(" + clue + ", " + part + ")", grid.itemOf(clue, part), due[clue][part]);
            }
        }
    }

    @Says({"Returns the item", "- `clue`: its number"})
    static void promise23ReturnsFrom0To11() {
        ClueGrid grid = new ClueGrid();
        for (int item = 0; item < 12; item++) {
            grid.either(item, (item + 1) % 12, (item + 2) % 12);
        }
        for (int item = 0; item < 12; item++) {
            for (int part = 0; part < 3; part++) {
                Check.due("itemOf(" + item + ", " + part + ")", grid.itemOf(item, part), (item + part) % 12);
            }
        }
    }

    @Says(NO_PART)
    static void promise23NoSuchClue() {
        noSuchClue((grid, clue) -> grid.itemOf(clue, 0));
        noSuchClue((grid, clue) -> grid.itemOf(clue, 2));
    }

    @Says(NO_PART)
    static void promise23NoSuchPart() {
        for (int wrong : new int[] {-1, 3, 4, Cases.LEAST, Cases.GREATEST}) {
            for (int clue : new int[] {0, 3}) {
                Cases.refused(Cases::busy, "the part " + wrong, grid -> grid.itemOf(clue, wrong), Cases.BOUNDS);
            }
            Cases.refused(Cases::nothing, "neither", grid -> grid.itemOf(0, wrong), Cases.BOUNDS);
        }
    }

    @Says(LOOKS)
    static void promise23ChangesNothing() {
        Cases.changesNothing(Cases::full, "itemOf(11, 2)", grid -> grid.itemOf(11, 2));
    }

    // ---- promise 24: placeOf

    @Says({"Returns the place; NONE if the clue is not of the sort 4 or 5.", "- `clue`: its number"})
    static void promise24OfEachSort() {
        ClueGrid grid = Cases.grid(EACH_SORT);
        int[] due = {NONE, NONE, NONE, NONE, 0, 3, NONE};
        for (int clue = 0; clue < 7; clue++) {
            Check.due("placeOf(" + clue + ")", grid.placeOf(clue), due[clue]);
        }
    }

    @Says("Returns the place")
    static void promise24ReturnsFrom0To3() {
        ClueGrid grid = Cases.grid("A@0;A@1;A@2;A@3;L!0;L!1;L!2;L!3");
        for (int clue = 0; clue < 8; clue++) {
            Check.due("placeOf(" + clue + ")", grid.placeOf(clue), clue % 4);
        }
    }

    @Says(NO_CLUE)
    static void promise24NoSuchClue() {
        noSuchClue(ClueGrid::placeOf);
    }

    @Says(LOOKS)
    static void promise24ChangesNothing() {
        Cases.changesNothing(Cases::full, "placeOf(11)", grid -> grid.placeOf(11));
    }

    // ---- promise 25: isCrossed

    @Says({"- `item`: 0 to 11", "- `place`: 0 to 3", "Returns whether it is."})
    static void promise25EachSpot() {
        for (int spot = 0; spot < 48; spot++) {
            ClueGrid grid = new ClueGrid();
            grid.cross(spot / 4, spot % 4);
            for (int other = 0; other < 48; other++) {
                Check.due("isCrossed of " + other, grid.isCrossed(other / 4, other % 4), other == spot);
            }
        }
    }

    @Says("Returns whether it is.")
    static void promise25NotWhatIsRuledOutOnly() {
        ClueGrid grid = Cases.grid("A@0;L!3");
        for (int spot = 0; spot < 48; spot++) {
            Check.due("isCrossed of " + spot, grid.isCrossed(spot / 4, spot % 4), false);
        }
    }

    @Says("Throws `IndexOutOfBoundsException` if there is no such item or place")
    static void promise25NoSuchItemOrPlace() {
        for (Cases.Build build : new Cases.Build[] {Cases::nothing, Cases::busy}) {
            for (int wrong : Cases.NO_ITEMS) {
                Cases.refused(build, "the item " + wrong, grid -> grid.isCrossed(wrong, 0) ? 1 : 0, Cases.BOUNDS);
                Cases.refused(build, "the item " + wrong, grid -> grid.isCrossed(wrong, 3) ? 1 : 0, Cases.BOUNDS);
            }
            for (int wrong : Cases.NO_PLACES) {
                Cases.refused(build, "the place " + wrong, grid -> grid.isCrossed(0, wrong) ? 1 : 0, Cases.BOUNDS);
                Cases.refused(build, "the place " + wrong, grid -> grid.isCrossed(11, wrong) ? 1 : 0, Cases.BOUNDS);
            }
            Cases.refused(build, "neither", grid -> grid.isCrossed(12, -1) ? 1 : 0, Cases.BOUNDS);
        }
    }

    @Says(LOOKS)
    static void promise25ChangesNothing() {
        Cases.changesNothing("isCrossed(0, 0)", grid -> grid.isCrossed(0, 0) ? 1 : 0);
    }

    // ---- promise 26: crosses

    @Says("Returns how many.")
    static void promise26ReturnsFrom0To48() {
        ClueGrid grid = new ClueGrid();
        for (int count = 0; count < 48; count++) {
            Check.due("crosses()", grid.crosses(), count);
            grid.cross(count * 7 % 48 / 4, count * 7 % 48 % 4);
        }
        Check.due("crosses()", grid.crosses(), 48);
        for (int count = 47; count >= 0; count--) {
            grid.rubOut(count / 4, count % 4);
            Check.due("crosses()", grid.crosses(), count);
        }
    }

    @Says(LOOKS)
    static void promise26ChangesNothing() {
        Cases.changesNothing("crosses()", ClueGrid::crosses);
    }

    // ---- promise 27: crossesByAccount

    @Says("Returns how many, the same as crosses().")
    static void promise27ReturnsFrom0To48() {
        ClueGrid grid = new ClueGrid();
        for (int count = 0; count < 48; count++) {
            Check.due("crossesByAccount()", grid.crossesByAccount(), count);
            grid.cross(count * 7 % 48 / 4, count * 7 % 48 % 4);
        }
        Check.due("crossesByAccount()", grid.crossesByAccount(), 48);
        Check.due("rubAllOut()", grid.rubAllOut(), 48);
        Check.due("crossesByAccount()", grid.crossesByAccount(), 0);
        Check.due("rubAllOut() of none", grid.rubAllOut(), 0);
        Check.due("crossesByAccount()", grid.crossesByAccount(), 0);
    }

    @Says("Tells the same by those made so far, less those rubbed out so far.")
    static void promise27ByEachCallThatMakesOrRubsOut() {
        ClueGrid grid = Cases.grid("A@0", "xL3;xL2;xL1");
        Check.due("after take()", grid.crossesByAccount(), 3);
        grid.keep();
        grid.settle();
        Check.due("after settle(), A and L fixed", grid.crossesByAccount(), 12);
        grid.undo();
        Check.due("after undo()", grid.crossesByAccount(), 3);
        grid.rubOut(11, 3);
        Check.due("after rubOut()", grid.crossesByAccount(), 2);
        grid.rubAllOut();
        Check.due("after rubAllOut()", grid.crossesByAccount(), 0);
        grid.goBack();
        Check.due("after goBack()", grid.crossesByAccount(), 3);
        Check.due("crosses()", grid.crosses(), 3);
    }

    @Says(LOOKS)
    static void promise27ChangesNothing() {
        Cases.changesNothing("crossesByAccount()", ClueGrid::crossesByAccount);
    }

    // ---- promise 28: made

    @Says("Returns how many.")
    static void promise28ReturnsFrom0ToMoreThanThereCanBe() {
        ClueGrid grid = new ClueGrid();
        Check.due("made()", grid.made(), 0);
        for (int count = 1; count <= 60; count++) {
            grid.cross(11, 3);
            Check.due("made()", grid.made(), count);
            grid.rubOut(11, 3);
            Check.due("made()", grid.made(), count);
        }
    }

    @Says("Tells how many crosses were made so far, by settle() too.")
    static void promise28ByEachCallThatMakes() {
        ClueGrid grid = Cases.grid(Cases.ALL_FIXED);
        grid.settle();
        Check.due("made() by settle()", grid.made(), 36);
        grid.rubAllOut();
        grid.settle();
        Check.due("made() by settle() twice", grid.made(), 72);
        grid.settle();
        Check.due("made(), as nothing is new", grid.made(), 72);
        Cases.write(grid, "xA0;xA1");
        grid.take();
        Check.due("made() by take(), of which A1 is crossed out", grid.made(), 73);
    }

    @Says("Tells how many crosses were made so far")
    static void promise28IsRestored() {
        ClueGrid grid = Cases.grid("xA0;xA1");
        grid.keep();
        grid.cross(0, 2);
        Check.due("made()", grid.made(), 3);
        grid.undo();
        Check.due("made() after undo()", grid.made(), 2);
        grid.rubAllOut();
        grid.cross(5, 2);
        grid.cross(5, 3);
        grid.goBack();
        Check.due("made() after goBack()", grid.made(), 2);
        Check.due("cross(0, 0)", Check.outcome(() -> grid.cross(0, 0)), Cases.STATE);
        Check.due("made() after a call that threw", grid.made(), 2);
    }

    @Says(LOOKS)
    static void promise28ChangesNothing() {
        Cases.changesNothing("made()", ClueGrid::made);
    }
}
