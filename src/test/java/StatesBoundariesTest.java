/** The boundary cases of a new object, the snapshot and undo: promises 1 and 18 to 20. */
final class StatesBoundariesTest {
    private static final String NEW = "Creates a grid without clues and crosses, with an empty buffer and no snapshot.";
    private static final String LAST = "An object is used for at most 512 calls after it has been made; what later calls answer is free.";
    private static final String SAVED = "At most 6 states are saved; the oldest one is dropped first.";
    private static final String APART = "all but the buffer, the snapshot and the saved states";
    private static final String MARKED = "Each method that is marked \"undoable\" and does not throw an exception saves the state from before it";

    public static void main(String[] args) {
        Cases.runAll(StatesBoundariesTest.class);
    }

    // ---- promise 1: a new object

    @Says(NEW)
    static void promise1WithoutClues() {
        ClueGrid grid = new ClueGrid();
        Check.due("clues()", grid.clues(), 0);
        Check.due("sortOf(0)", Check.outcome(() -> grid.sortOf(0)), Cases.BOUNDS);
        Check.due("withdraw(0)", Check.outcome(() -> grid.withdraw(0)), Cases.BOUNDS);
    }

    @Says(NEW)
    static void promise1WithoutCrosses() {
        ClueGrid grid = new ClueGrid();
        for (int spot = 0; spot < 48; spot++) {
            Check.due("isCrossed of " + spot, grid.isCrossed(spot / 4, spot % 4), false);
        }
        Check.due("crosses()", grid.crosses(), 0);
        Check.due("crossesByAccount()", grid.crossesByAccount(), 0);
        Check.due("made()", grid.made(), 0);
    }

    @Says(NEW)
    static void promise1WithAnEmptyBuffer() {
        Check.due("clearBuffer()", new ClueGrid().clearBuffer(), 0);
        Check.due("firstError()", new ClueGrid().firstError(), 0);
        Check.due("append(65)", new ClueGrid().append(65), 1);
        Check.due("take()", Check.outcome(new ClueGrid()::take), Cases.ARGUMENT);
    }

    @Says(NEW)
    static void promise1WithoutSnapshot() {
        Check.due("goBack()", Check.outcome(new ClueGrid()::goBack), Cases.STATE);
        ClueGrid grid = new ClueGrid();
        Check.due("digest()", grid.digest(), Told.digest(grid, 0, false, ""));
    }

    @Says(NEW)
    static void promise1WithoutSavedStates() {
        Check.due("undo()", Check.outcome(new ClueGrid()::undo), Cases.STATE);
    }

    @Says(NEW)
    static void promise1ObjectsShareNothing() {
        long before = new ClueGrid().digest();
        ClueGrid one = new ClueGrid();
        ClueGrid other = Cases.made(Cases::full);
        Check.due("digest() of one made earlier", one.digest(), before);
        Check.due("digest() of one made later", new ClueGrid().digest(), before);
        Check.due("all there is of one that is busy", Told.whole(other), Told.whole(Cases.made(Cases::full)));
    }

    /** A grid that was asked 510 times: a cross is made and rubbed out again and again. */
    private static ClueGrid asked510Times() {
        ClueGrid grid = new ClueGrid();
        for (int i = 0; i < 255; i++) {
            grid.cross(i % 12, i % 4);
            grid.rubOut(i % 12, i % 4);
        }
        return grid;
    }

    @Says(LAST)
    static void promise1TheCall512() {
        ClueGrid grid = asked510Times();
        long due = grid.digest();
        Check.due("digest() as the call 512", grid.digest(), due);
        last("made()", ClueGrid::made, "255");
        last("crosses()", ClueGrid::crosses, "0");
        last("solutions()", ClueGrid::solutions, "13824");
        last("solutionsBySearch()", ClueGrid::solutionsBySearch, "13824");
        last("undo()", ClueGrid::undo, "5");
        last("settle()", ClueGrid::settle, "0");
        last("same(0, 11)", each -> each.same(0, 11), "0");
        last("same(0, 12)", each -> each.same(0, 12), Cases.BOUNDS);
        last("goBack()", ClueGrid::goBack, Cases.STATE);
    }

    private static void last(String call, Cases.Call run, String due) {
        ClueGrid grid = asked510Times();
        Check.due("clues() as the call 511", grid.clues(), 0);
        Check.due(call + " as the call 512", Check.outcome(() -> run.on(grid)), due);
    }

    @Says(LAST)
    static void promise1TheClues512Times() {
        ClueGrid grid = new ClueGrid();
        for (int i = 0; i < 256; i++) {
            Check.due("at(0, 0)", grid.at(0, 0), 0);
            Check.due("withdraw(0)", grid.withdraw(0), 0);
        }
    }

    // ---- promise 18: keep

    @Says("Returns how many clues there are.")
    static void promise18ReturnsFrom0To12() {
        ClueGrid grid = new ClueGrid();
        for (int count = 0; count <= 12; count++) {
            Check.due("keep()", grid.keep(), count);
            if (count < 12) {
                grid.apart(count, (count + 4) % 12);
            }
        }
    }

    @Says("Takes a snapshot of the state (of all that undo() would restore), in place of the one that was.")
    static void promise18InPlaceOfTheOneThatWas() {
        ClueGrid grid = Cases.grid("A=B;xA0");
        grid.keep();
        grid.keep();
        grid.same(2, 3);
        Check.due("keep()", grid.keep(), 2);
        grid.rubAllOut();
        grid.withdraw(0);
        grid.withdraw(0);
        Check.due("goBack()", grid.goBack(), 2);
        Check.due("the clue 1", Told.clue(grid, 1), "0:2,3,-1@-1");
        Check.due("crosses()", grid.crosses(), 1);
        grid.undo();
        Check.due("keep() of none", grid.keep(), 0);
        grid.at(0, 0);
        Check.due("goBack()", grid.goBack(), 0);
    }

    @Says("of all that undo() would restore")
    static void promise18AccountsToo() {
        ClueGrid grid = Cases.grid("xA0;xA1;xA2");
        grid.rubOut(0, 1);
        grid.keep();
        grid.rubAllOut();
        grid.cross(5, 0);
        grid.goBack();
        Check.due("made()", grid.made(), 3);
        Check.due("crosses()", grid.crosses(), 2);
        Check.due("crossesByAccount()", grid.crossesByAccount(), 2);
        Check.due("isCrossed(5, 0)", grid.isCrossed(5, 0), false);
    }

    @Says(MARKED)
    static void promise18IsNotUndoable() {
        Cases.savesNothing(Cases::nothing, "keep()", ClueGrid::keep);
        Cases.savesNothing(Cases::busy, "keep()", ClueGrid::keep);
        Cases.savesNothing(Cases::full, "keep()", ClueGrid::keep);
        ClueGrid grid = new ClueGrid();
        grid.keep();
        Check.due("undo() after keep() alone", Check.outcome(grid::undo), Cases.STATE);
    }

    @Says(APART)
    static void promise18IsNotUndone() {
        ClueGrid grid = new ClueGrid();
        grid.at(0, 0);
        grid.keep();
        grid.undo();
        Check.due("goBack() to what was kept", grid.goBack(), 1);
        ClueGrid other = new ClueGrid();
        other.keep();
        other.at(0, 0);
        other.keep();
        other.undo();
        Check.due("goBack() to what was kept last", other.goBack(), 1);
    }

    // ---- promise 19: goBack

    @Says("Returns how many clues there are then.")
    static void promise19ReturnsFrom0To12() {
        for (int count = 0; count <= 12; count++) {
            ClueGrid grid = new ClueGrid();
            for (int i = 0; i < count; i++) {
                grid.apart(i, (i + 4) % 12);
            }
            grid.keep();
            if (count < 12) {
                grid.at(0, 0);
            } else {
                grid.withdraw(0);
            }
            Check.due("goBack()", grid.goBack(), count);
            Check.due("clues()", grid.clues(), count);
        }
    }

    @Says("Throws `IllegalStateException` if there is no snapshot")
    static void promise19NoSnapshot() {
        Cases.refused(Cases::nothing, "goBack()", ClueGrid::goBack, Cases.STATE);
        Cases.refused(StatesBoundariesTest::sevenCrosses, "goBack()", ClueGrid::goBack, Cases.STATE);
        Cases.refused(grid -> {
            sevenCrosses(grid);
            grid.undo();
            Cases.write(grid, "A=");
        }, "goBack()", ClueGrid::goBack, Cases.STATE);
    }

    private static void sevenCrosses(ClueGrid grid) {
        for (int i = 0; i < 7; i++) {
            grid.cross(i, i % 4);
        }
    }

    @Says("Goes back to the snapshot, which stays.")
    static void promise19TheSnapshotStays() {
        ClueGrid grid = Cases.grid("A=B;C@1");
        grid.keep();
        for (int i = 0; i < 8; i++) {
            grid.withdraw(0);
            grid.cross(i, 0);
            Check.due("goBack()", grid.goBack(), 2);
            Check.due("the clue 0", Told.clue(grid, 0), "0:0,1,-1@-1");
            Check.due("the clue 1", Told.clue(grid, 1), "4:2,-1,-1@1");
            Check.due("crosses()", grid.crosses(), 0);
        }
    }

    @Says("Undoable.")
    static void promise19Undoable() {
        Cases.undoable(Cases::busy, "goBack()", ClueGrid::goBack);
        Cases.undoable(Cases::full, "goBack()", ClueGrid::goBack);
    }

    @Says("(also if it changes nothing)")
    static void promise19UndoableThoughNothingChanges() {
        Cases.undoable(ClueGrid::keep, "goBack()", ClueGrid::goBack);
        ClueGrid grid = new ClueGrid();
        grid.keep();
        for (int i = 0; i < 7; i++) {
            grid.goBack();
        }
        Check.due("undo() after seven that changed nothing", grid.undo(), 5);
    }

    @Says(APART)
    static void promise19LeavesTheBuffer() {
        ClueGrid grid = new ClueGrid();
        Cases.write(grid, "A=");
        grid.keep();
        Cases.write(grid, "B");
        grid.goBack();
        Check.due("take() of what was written since", grid.take(), 1);
    }

    @Says(APART)
    static void promise19LeavesTheSavedStates() {
        ClueGrid grid = new ClueGrid();
        grid.keep();
        sevenCrosses(grid);
        grid.goBack();
        for (int left = 5; left >= 0; left--) {
            Check.due("undo()", grid.undo(), left);
            Check.due("crosses()", grid.crosses(), left + 2);
        }
    }

    // ---- promise 20: undo

    @Says({"Returns how many saved states are left.", SAVED})
    static void promise20ReturnsFrom5To0() {
        for (int calls = 1; calls <= 8; calls++) {
            ClueGrid grid = new ClueGrid();
            for (int i = 0; i < calls; i++) {
                grid.cross(i, i % 4);
            }
            for (int left = Math.min(calls, 6) - 1; left >= 0; left--) {
                Check.due("undo() after " + calls, grid.undo(), left);
            }
            Check.due("undo() once more", Check.outcome(grid::undo), Cases.STATE);
        }
    }

    @Says(SAVED)
    static void promise20TheOldestOnesAreDropped() {
        ClueGrid grid = new ClueGrid();
        for (int i = 0; i < 20; i++) {
            grid.cross(i % 12, i / 12);
        }
        for (int crosses = 19; crosses >= 14; crosses--) {
            grid.undo();
            Check.due("crosses()", grid.crosses(), crosses);
            Check.due("made()", grid.made(), crosses);
        }
        Check.due("undo() of what was dropped", Check.outcome(grid::undo), Cases.STATE);
        Check.due("crosses()", grid.crosses(), 14);
    }

    @Says(SAVED)
    static void promise20RoomIsFreeAgain() {
        ClueGrid grid = new ClueGrid();
        for (int i = 0; i < 6; i++) {
            grid.cross(i, 0);
        }
        grid.undo();
        grid.undo();
        grid.cross(10, 0);
        grid.cross(11, 0);
        for (int left = 5; left >= 0; left--) {
            Check.due("undo()", grid.undo(), left);
        }
        Check.due("crosses(), as none was dropped", grid.crosses(), 0);
    }

    @Says("Throws `IllegalStateException` if there is none")
    static void promise20NoSavedState() {
        Cases.refused(Cases::nothing, "undo()", ClueGrid::undo, Cases.STATE);
        Cases.refused(grid -> {
            sevenCrosses(grid);
            grid.keep();
            for (int i = 0; i < 6; i++) {
                grid.undo();
            }
            Cases.write(grid, "A=");
        }, "undo() of what was dropped", ClueGrid::undo, Cases.STATE);
    }

    @Says("Restores the latest saved state, and drops it.")
    static void promise20IsNotUndone() {
        ClueGrid grid = Cases.grid("A=B", "C=D");
        Check.due("undo()", grid.undo(), 1);
        Check.due("clues()", grid.clues(), 1);
        Check.due("undo()", grid.undo(), 0);
        Check.due("clues()", grid.clues(), 0);
        Check.due("undo()", Check.outcome(grid::undo), Cases.STATE);
    }

    @Says(APART)
    static void promise20LeavesTheBuffer() {
        ClueGrid grid = new ClueGrid();
        grid.at(0, 0);
        Cases.write(grid, "xA1");
        grid.undo();
        Check.due("take()", grid.take(), 1);
        Check.due("isCrossed(0, 1)", grid.isCrossed(0, 1), true);
    }

    @Says(APART)
    static void promise20LeavesTheSnapshot() {
        ClueGrid grid = new ClueGrid();
        grid.at(0, 0);
        grid.at(1, 1);
        grid.keep();
        grid.undo();
        grid.undo();
        Check.due("goBack()", grid.goBack(), 2);
        Check.due("undo()", grid.undo(), 0);
        Check.due("clues()", grid.clues(), 0);
    }

    @Says(MARKED)
    static void promise20NotOfACallThatThrew() {
        ClueGrid grid = new ClueGrid();
        grid.cross(0, 0);
        Check.due("cross(0, 0)", Check.outcome(() -> grid.cross(0, 0)), Cases.STATE);
        Check.due("rubOut(0, 1)", Check.outcome(() -> grid.rubOut(0, 1)), Cases.STATE);
        Check.due("at(12, 0)", Check.outcome(() -> grid.at(12, 0)), Cases.BOUNDS);
        Check.due("same(0, 0)", Check.outcome(() -> grid.same(0, 0)), Cases.ARGUMENT);
        Check.due("take()", Check.outcome(grid::take), Cases.ARGUMENT);
        Check.due("goBack()", Check.outcome(grid::goBack), Cases.STATE);
        Check.due("withdraw(0)", Check.outcome(() -> grid.withdraw(0)), Cases.BOUNDS);
        Check.due("undo()", grid.undo(), 0);
        Check.due("crosses()", grid.crosses(), 0);
    }
}
