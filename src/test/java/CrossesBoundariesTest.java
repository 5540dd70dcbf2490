/** The boundary cases of the crosses: promises 10 to 13, and the terms that they rest on. */
final class CrossesBoundariesTest {
    private static final String NO_SPOT = "Throws `IndexOutOfBoundsException` if there is no such item or place";
    private static final String ORDER = "If several exceptions apply, the one that is named first in the throws clause is thrown.";
    private static final String UNCROSSED = "Returns how many places are not crossed out for the item then.";
    private static final String NOTHING_TOO = "saves the state from before it (also if it changes nothing)";

    private interface Change {
        int on(ClueGrid grid, int item, int place);
    }

    public static void main(String[] args) {
        Cases.runAll(CrossesBoundariesTest.class);
    }

    private static void allCrossed(ClueGrid grid) {
        for (int spot = 0; spot < 48; spot++) {
            grid.cross(spot / 4, spot % 4);
        }
    }

    private static void noSuchSpot(Change change) {
        for (int wrong : Cases.NO_ITEMS) {
            for (int place : new int[] {0, 3}) {
                Cases.refused(Cases::busy, "the item " + wrong, grid -> change.on(grid, wrong, place), Cases.BOUNDS);
            }
            Cases.refused(Cases::nothing, "the item " + wrong, grid -> change.on(grid, wrong, 0), Cases.BOUNDS);
        }
        for (int wrong : Cases.NO_PLACES) {
            for (int item : new int[] {0, 11}) {
                Cases.refused(Cases::busy, "the place " + wrong, grid -> change.on(grid, item, wrong), Cases.BOUNDS);
            }
            Cases.refused(Cases::nothing, "the place " + wrong, grid -> change.on(grid, 0, wrong), Cases.BOUNDS);
        }
        Cases.refused(Cases::busy, "neither", grid -> change.on(grid, -1, 4), Cases.BOUNDS);
    }

    /** A place beyond 3 must not be taken for one of the next item, nor one below 0 for the item before. */
    private static void noSuchSpotInState(Cases.Build build, Change change) {
        for (int wrong : Cases.NO_PLACES) {
            for (int item = 0; item < 12; item++) {
                int who = item;
                Cases.refused(build, "the place " + wrong + " of " + who, grid -> change.on(grid, who, wrong), Cases.BOUNDS);
            }
        }
        for (int wrong : Cases.NO_ITEMS) {
            Cases.refused(build, "the item " + wrong, grid -> change.on(grid, wrong, 3), Cases.BOUNDS);
        }
    }

    // ---- promise 10: cross

    @Says("- `item`: 0 to 11")
    static void promise10EachItem() {
        for (int item = 0; item < 12; item++) {
            ClueGrid grid = new ClueGrid();
            Check.due("cross(" + item + ", 0)", grid.cross(item, 0), 3);
            for (int spot = 0; spot < 48; spot++) {
                Check.due("isCrossed of " + spot, grid.isCrossed(spot / 4, spot % 4), spot == 4 * item);
            }
        }
    }

    @Says("- `place`: 0 to 3")
    static void promise10EachPlace() {
        for (int place = 0; place < 4; place++) {
            ClueGrid grid = new ClueGrid();
            grid.cross(0, place);
            grid.cross(11, place);
            for (int spot = 0; spot < 48; spot++) {
                Check.due("isCrossed of " + spot, grid.isCrossed(spot / 4, spot % 4), spot == place || spot == 44 + place);
            }
        }
    }

    @Says(UNCROSSED)
    static void promise10ReturnsFrom3To0() {
        ClueGrid grid = new ClueGrid();
        for (int item = 0; item < 12; item++) {
            for (int i = 0; i < 4; i++) {
                Check.due("cross of " + item, grid.cross(item, (item + i) % 4), 3 - i);
            }
        }
        Check.due("crosses()", grid.crosses(), 48);
    }

    /** A place that a clue rules out is not crossed out yet, so it still counts. */
    @Says(UNCROSSED)
    static void promise10ReturnsWhatIsNotCrossedOutThoughRuledOut() {
        ClueGrid grid = Cases.grid("A@0");
        Check.due("cross(0, 1), which is ruled out", grid.cross(0, 1), 3);
        Check.due("cross(1, 0), which is ruled out", grid.cross(1, 0), 3);
        Check.due("cross(0, 0), which is left alone", grid.cross(0, 0), 2);
    }

    @Says(NO_SPOT)
    static void promise10NoSuchItemOrPlace() {
        noSuchSpot(ClueGrid::cross);
        noSuchSpotInState(Cases::busy, ClueGrid::cross);
    }

    @Says("Throws `IllegalStateException` if it is crossed out already")
    static void promise10CrossedOutAlready() {
        for (int spot = 0; spot < 48; spot++) {
            int item = spot / 4;
            int place = spot % 4;
            Cases.refused(grid -> grid.cross(item, place), "cross twice", grid -> grid.cross(item, place), Cases.STATE);
        }
        Cases.refused(Cases::busy, "cross(0, 0)", grid -> grid.cross(0, 0), Cases.STATE);
        Cases.refused(CrossesBoundariesTest::allCrossed, "cross(11, 3) of all", grid -> grid.cross(11, 3), Cases.STATE);
    }

    @Says("Throws `IllegalStateException` if it is crossed out already")
    static void promise10CrossedOutByOtherCalls() {
        Cases.refused(grid -> {
            grid.at(0, 0);
            grid.settle();
        }, "cross of what settle() crossed out", grid -> grid.cross(1, 0), Cases.STATE);
        Cases.refused(grid -> {
            Cases.write(grid, "xL3");
            grid.take();
        }, "cross of what take() crossed out", grid -> grid.cross(11, 3), Cases.STATE);
        Cases.refused(grid -> {
            grid.cross(5, 1);
            grid.rubOut(5, 1);
            grid.undo();
        }, "cross of what undo() brought back", grid -> grid.cross(5, 1), Cases.STATE);
        ClueGrid grid = Cases.grid("xL3");
        grid.rubOut(11, 3);
        Check.due("cross of what was rubbed out", grid.cross(11, 3), 3);
        grid.undo();
        Check.due("cross of what was undone", grid.cross(11, 3), 3);
    }

    @Says(ORDER)
    static void promise10SeveralExceptionsApply() {
        noSuchSpotInState(CrossesBoundariesTest::allCrossed, ClueGrid::cross);
    }

    @Says("Undoable.")
    static void promise10Undoable() {
        Cases.undoable(Cases::nothing, "cross(0, 0)", grid -> grid.cross(0, 0));
        Cases.undoable(Cases::busy, "cross(11, 3)", grid -> grid.cross(11, 3));
        Cases.undoable(grid -> grid.cross(2, 1), "cross(2, 0)", grid -> grid.cross(2, 0));
    }

    @Says("A place can be crossed out for an item by hand.")
    static void promise10OfOneItemAlone() {
        Check.due("left of all", Told.left(Cases.grid("xD3;xE0;xH3;xI0")), "fff7eff7efff");
    }

    // ---- promise 11: rubOut

    @Says("- `item`: 0 to 11")
    static void promise11EachItem() {
        for (int item = 0; item < 12; item++) {
            ClueGrid grid = Cases.made(CrossesBoundariesTest::allCrossed);
            Check.due("rubOut(" + item + ", 3)", grid.rubOut(item, 3), 1);
            for (int spot = 0; spot < 48; spot++) {
                Check.due("isCrossed of " + spot, grid.isCrossed(spot / 4, spot % 4), spot != 4 * item + 3);
            }
        }
    }

    @Says("- `place`: 0 to 3")
    static void promise11EachPlace() {
        for (int place = 0; place < 4; place++) {
            ClueGrid grid = Cases.made(CrossesBoundariesTest::allCrossed);
            grid.rubOut(0, place);
            grid.rubOut(11, place);
            for (int spot = 0; spot < 48; spot++) {
                Check.due("isCrossed of " + spot, grid.isCrossed(spot / 4, spot % 4), spot != place && spot != 44 + place);
            }
        }
    }

    @Says(UNCROSSED)
    static void promise11ReturnsFrom1To4() {
        ClueGrid grid = Cases.made(CrossesBoundariesTest::allCrossed);
        for (int item = 0; item < 12; item++) {
            for (int i = 0; i < 4; i++) {
                Check.due("rubOut of " + item, grid.rubOut(item, (item + i) % 4), i + 1);
            }
        }
        Check.due("crosses()", grid.crosses(), 0);
    }

    @Says(NO_SPOT)
    static void promise11NoSuchItemOrPlace() {
        noSuchSpot(ClueGrid::rubOut);
        noSuchSpotInState(CrossesBoundariesTest::allCrossed, ClueGrid::rubOut);
    }

    @Says("Throws `IllegalStateException` if it is not crossed out")
    static void promise11NotCrossedOut() {
        for (int spot = 0; spot < 48; spot++) {
            int item = spot / 4;
            int place = spot % 4;
            Cases.refused(Cases::nothing, "rubOut of none", grid -> grid.rubOut(item, place), Cases.STATE);
            Cases.refused(grid -> {
                allCrossed(grid);
                grid.rubOut(item, place);
            }, "rubOut twice", grid -> grid.rubOut(item, place), Cases.STATE);
        }
        Cases.refused(Cases::busy, "rubOut(11, 3)", grid -> grid.rubOut(11, 3), Cases.STATE);
    }

    @Says("Throws `IllegalStateException` if it is not crossed out")
    static void promise11RuledOutOnly() {
        Cases.refused(grid -> grid.at(0, 0), "rubOut of what a clue rules out", grid -> grid.rubOut(0, 1), Cases.STATE);
        Cases.refused(grid -> grid.at(0, 0), "rubOut of what a kind rules out", grid -> grid.rubOut(1, 0), Cases.STATE);
        ClueGrid grid = Cases.grid("A@0");
        grid.settle();
        Check.due("rubOut of what settle() crossed out", grid.rubOut(1, 0), 4);
    }

    @Says(ORDER)
    static void promise11SeveralExceptionsApply() {
        noSuchSpotInState(Cases::nothing, ClueGrid::rubOut);
    }

    @Says("Undoable.")
    static void promise11Undoable() {
        Cases.undoable(grid -> grid.cross(0, 0), "rubOut(0, 0)", grid -> grid.rubOut(0, 0));
        Cases.undoable(Cases::busy, "rubOut(7, 1)", grid -> grid.rubOut(7, 1));
        Cases.undoable(CrossesBoundariesTest::allCrossed, "rubOut(11, 3)", grid -> grid.rubOut(11, 3));
    }

    // ---- promise 12: rubAllOut

    @Says("Returns how many there were.")
    static void promise12ReturnsFrom0To48() {
        ClueGrid grid = new ClueGrid();
        for (int count = 0; count <= 48; count++) {
            for (int spot = 0; spot < count; spot++) {
                grid.cross((spot * 5 % 48) / 4, (spot * 5 % 48) % 4);
            }
            Check.due("rubAllOut()", grid.rubAllOut(), count);
            Check.due("crosses()", grid.crosses(), 0);
            grid = new ClueGrid();
        }
    }

    @Says("Rubs all crosses out.")
    static void promise12LeavesNone() {
        ClueGrid grid = Cases.made(CrossesBoundariesTest::allCrossed);
        grid.rubAllOut();
        for (int spot = 0; spot < 48; spot++) {
            Check.due("isCrossed of " + spot, grid.isCrossed(spot / 4, spot % 4), false);
        }
        Check.due("rubAllOut() again", grid.rubAllOut(), 0);
        ClueGrid settled = Cases.grid(Cases.ALL_FIXED);
        settled.settle();
        Check.due("rubAllOut() of what settle() crossed out", settled.rubAllOut(), 36);
        Check.due("clues()", settled.clues(), 11);
    }

    @Says("Undoable.")
    static void promise12Undoable() {
        Cases.undoable(Cases::busy, "rubAllOut()", ClueGrid::rubAllOut);
        Cases.undoable(CrossesBoundariesTest::allCrossed, "rubAllOut() of 48", ClueGrid::rubAllOut);
    }

    @Says(NOTHING_TOO)
    static void promise12UndoableWithoutCrosses() {
        Cases.undoable(Cases::nothing, "rubAllOut() of none", ClueGrid::rubAllOut);
        Cases.undoable(grid -> grid.at(0, 0), "rubAllOut() of none", ClueGrid::rubAllOut);
        ClueGrid grid = new ClueGrid();
        for (int i = 0; i < 6; i++) {
            grid.rubAllOut();
        }
        Check.due("undo() after six that changed nothing", grid.undo(), 5);
    }

    // ---- promise 13: settle

    @Says("Returns how many crosses are new.")
    static void promise13ReturnsFrom0To36() {
        Check.due("settle() of nothing", new ClueGrid().settle(), 0);
        Check.due("settle() of one", Cases.grid("L!3").settle(), 1);
        ClueGrid grid = Cases.grid(Cases.ALL_FIXED);
        Check.due("settle() of all fixed", grid.settle(), 36);
        Check.due("crosses()", grid.crosses(), 36);
        Check.due("settle() again", grid.settle(), 0);
        Check.due("left of all", Told.left(grid), "124812481248");
    }

    @Says("Returns how many crosses are new.")
    static void promise13CrossesThatWereAreNotNew() {
        Check.due("settle() with one of three crossed", Cases.grid("A@0;xA1").settle(), 5);
        Check.due("settle() with all crossed", Cases.grid("A@0;xA1;xA2;xA3;xB0;xC0;xD0").settle(), 0);
        Check.due("settle() with crosses elsewhere", Cases.grid("A@0;xL0").settle(), 6);
    }

    @Says("Crosses all out that is ruled out by propagation.")
    static void promise13ByAllRounds() {
        ClueGrid grid = Cases.grid("A=E;E=I;I@3");
        Check.due("settle()", grid.settle(), 18);
        for (int spot = 0; spot < 48; spot++) {
            int item = spot / 4;
            boolean isLast = item % 4 == 0;
            Check.due("isCrossed of " + spot, grid.isCrossed(item, spot % 4), isLast != (spot % 4 == 3));
        }
    }

    @Says("Throws `IllegalStateException` if there is a contradiction")
    static void promise13Contradiction() {
        String[] texts = {"xA0;xA1;xA2;xA3", "xI3;xJ3;xK3;xL3", "A@0;B@0", "L@1;L@2", "A<E;E<A", "A=E;E=I;I@3;A!3"};
        for (String text : texts) {
            Cases.refused(grid -> {
                Cases.write(grid, text);
                grid.take();
                Cases.write(grid, "A=");
                grid.keep();
            }, "settle() of " + text, ClueGrid::settle, Cases.STATE);
        }
        Cases.refused(CrossesBoundariesTest::allCrossed, "settle() of all crossed", ClueGrid::settle, Cases.STATE);
        Cases.refused(grid -> {
            Cases.busy(grid);
            grid.at(4, 0);
            grid.at(4, 1);
        }, "settle() of a busy grid", ClueGrid::settle, Cases.STATE);
    }

    @Says("Throws `IllegalStateException` if there is a contradiction")
    static void promise13NoSolutionsButNoContradiction() {
        Check.due("settle() of A=B", Cases.grid("A=B").settle(), 0);
        ClueGrid grid = Cases.grid("A=B;A!0");
        Check.due("settle() of A=B and A!0", grid.settle(), 2);
        Check.due("solutions()", grid.solutions(), 0);
    }

    @Says("Undoable.")
    static void promise13Undoable() {
        Cases.undoable(grid -> grid.at(0, 0), "settle()", ClueGrid::settle);
        Cases.undoable(Cases::busy, "settle()", ClueGrid::settle);
    }

    @Says(NOTHING_TOO)
    static void promise13UndoableThoughNothingIsNew() {
        Cases.undoable(Cases::nothing, "settle() of nothing", ClueGrid::settle);
        ClueGrid grid = Cases.grid("A@0");
        grid.settle();
        grid.settle();
        grid.settle();
        Check.due("undo() after three", grid.undo(), 3);
        Check.due("crosses()", grid.crosses(), 6);
        grid.undo();
        grid.undo();
        Check.due("crosses()", grid.crosses(), 0);
    }
}
