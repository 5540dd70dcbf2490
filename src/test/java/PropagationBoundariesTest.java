/** The boundary cases of the propagation: promises 29 to 36, and the terms that they rest on. */
final class PropagationBoundariesTest {
    private static final String LOOKS = "propagation; nothing is changed";
    private static final String NO_ITEM = "Throws `IndexOutOfBoundsException` if there is no such item";
    private static final String FIRST = "At first those places are left for an item that are not crossed out.";
    private static final String BY_CLUE = "by a clue of which it is an item: with it at this place, there is no choice of places that are left "
            + "for the other items of the clue with which the clue would hold";
    private static final String BY_ANOTHER = "another item of its kind has this place left, and no other one";
    private static final String BY_NEED = "this item is the only one of its kind that has some other place left.";
    private static final String AT_ONCE = "In a round all that can be ruled out by what was left ahead of the round is ruled out at once.";
    private static final String GO_ON = "Rounds go on as long as something is ruled out, whatever is left.";
    private static final String CONTRADICTION = "There is a contradiction, if at the end some item has no place left, "
            + "or some place is left for no item of some kind.";
    private static final String NOTHING_LEFT = "What is told as left at the end is nothing at all for any item, if there is a contradiction.";
    private static final String NO_E = "xE0;xE1;xE2;xE3;";
    private static final int NONE = ClueGrid.NONE;
    private static final String[] CONTRADICTIONS = {"xA0;xA1;xA2;xA3", "xL0;xL1;xL2;xL3", "xA3;xB3;xC3;xD3", "xI0;xJ0;xK0;xL0", "A@0;B@0",
        "L@1;L@2", "A<E;E<A", "A=E;E=I;I@3;A!3", "xB0;xC0;xD0;xB1;xC1;xD1", "A@0;A@1;A=E;E=I", "E@0;A<E", "A@3;A<E"};

    private interface ByItem {
        long look(ClueGrid grid, int item);
    }

    public static void main(String[] args) {
        Cases.runAll(PropagationBoundariesTest.class);
    }

    private static void noSuchItem(ByItem look) {
        for (int wrong : Cases.NO_ITEMS) {
            Cases.refused(Cases::nothing, "the item " + wrong, grid -> look.look(grid, wrong), Cases.BOUNDS);
            Cases.refused(Cases::busy, "the item " + wrong, grid -> look.look(grid, wrong), Cases.BOUNDS);
            Cases.refused(grid -> {
                grid.at(0, 0);
                grid.at(0, 1);
            }, "the item " + wrong + " with a contradiction", grid -> look.look(grid, wrong), Cases.BOUNDS);
        }
    }

    private static ClueGrid withMask(int item, int mask) {
        ClueGrid grid = new ClueGrid();
        crossBut(grid, item, mask);
        return grid;
    }

    private static void crossBut(ClueGrid grid, int item, int mask) {
        for (int place = 0; place < 4; place++) {
            if ((mask >> place & 1) == 0) {
                grid.cross(item, place);
            }
        }
    }

    /** The masks if the item has only this one, and the others of its kind all but that. */
    private static String fixed(int item, int place) {
        StringBuilder masks = new StringBuilder();
        for (int other = 0; other < 12; other++) {
            int mask = other == item ? 1 << place : other / 4 == item / 4 ? 15 - (1 << place) : 15;
            masks.append(Integer.toHexString(mask));
        }
        return masks.toString();
    }

    // ---- promise 29: left

    @Says({FIRST, "- `item`: 0 to 11", "Returns the places, as a mask (the bit p for the place p); 0 if there is a contradiction."})
    static void promise29EachMaskOfEachItem() {
        for (int item = 0; item < 12; item++) {
            for (int mask = 0; mask < 16; mask++) {
                Check.due("left(" + item + ")", withMask(item, mask).left(item), mask);
            }
        }
        Check.due("left of all without crosses", Told.left(new ClueGrid()), "ffffffffffff");
    }

    @Says("Returns the places, as a mask (the bit p for the place p)")
    static void promise29TheOthersKeepAllIfTwoAreLeft() {
        Check.due("left of all", Told.left(Cases.grid("xA0;xA1;xH2;xH3;xI1;xI2")), "cffffff39fff");
    }

    @Says(BY_CLUE)
    static void promise29OneAndTwoPlacesOfTheOther() {
        int[] masks = {1, 2, 4, 8, 9, 15};
        String[] clues = {"A=E", "E=A", "A#E", "E#A", "A<E", "E<A", "A~E", "E~A"};
        int[][] due = {{1, 2, 4, 8, 9, 15}, {1, 2, 4, 8, 9, 15}, {14, 13, 11, 7, 15, 15}, {14, 13, 11, 7, 15, 15},
            {0, 1, 3, 7, 7, 7}, {14, 12, 8, 0, 14, 14}, {2, 5, 10, 4, 6, 15}, {2, 5, 10, 4, 6, 15}};
        for (int i = 0; i < clues.length; i++) {
            for (int k = 0; k < masks.length; k++) {
                ClueGrid grid = Cases.grid(clues[i]);
                crossBut(grid, 4, masks[k]);
                Check.due("left(0) of " + clues[i] + " with " + masks[k] + " for E", grid.left(0), due[i][k]);
                Check.due("leftByTurns(0)", grid.leftByTurns(0), due[i][k]);
            }
        }
    }

    @Says(BY_CLUE)
    static void promise29EitherOfTwo() {
        Check.due("left(0), E and I at one place each", Cases.grid("E@0;I@3;A|EI").left(0), 9);
        Check.due("left(0), E and I at the same place", Cases.grid("E@1;I@1;A|EI").left(0), 2);
        Check.due("left(4), I elsewhere", Cases.grid("A@1;I@2;A|EI").left(4), 2);
        Check.due("left(8), E elsewhere", Cases.grid("A@1;E@2;A|EI").left(8), 2);
        Check.due("left(4), I may be there", Cases.grid("A@1;xI0;A|EI").left(4), 15);
        Check.due("left of all, with all left", Told.left(Cases.grid("A|EI")), "ffffffffffff");
    }

    /** Places of two items of a kind are a choice for a clue, though no arrangement has them. */
    @Says("there is no choice of places that are left for the other items of the clue with which the clue would hold")
    static void promise29ClueWithinAKind() {
        Check.due("left of all, A=B", Told.left(Cases.grid("A=B")), "ffffffffffff");
        Check.due("left of all, A|BC", Told.left(Cases.grid("A|BC")), "ffffffffffff");
        Check.due("left of all, A<B", Told.left(Cases.grid("A<B")), "7effffffffff");
        Check.due("left of all, A~D with A at 3", Told.left(Cases.grid("A~D;A@3")), "8334ffffffff");
    }

    @Says({BY_ANOTHER, "The items 0 to 3 are of the kind 0, 4 to 7 of the kind 1, and 8 to 11 of the kind 2."})
    static void promise29AnotherItemOfEachKind() {
        for (int item = 0; item < 12; item++) {
            for (int place = 0; place < 4; place++) {
                ClueGrid grid = withMask(item, 1 << place);
                Check.due("left of all with " + item + " at " + place, Told.left(grid), fixed(item, place));
                Check.due("rounds()", grid.rounds(), 1);
            }
        }
    }

    @Says({BY_NEED, "The items 0 to 3 are of the kind 0, 4 to 7 of the kind 1, and 8 to 11 of the kind 2."})
    static void promise29TheOnlyOneOfEachKind() {
        for (int item = 0; item < 12; item++) {
            for (int place = 0; place < 4; place++) {
                ClueGrid grid = new ClueGrid();
                for (int other = item / 4 * 4; other < item / 4 * 4 + 4; other++) {
                    if (other != item) {
                        grid.cross(other, place);
                    }
                }
                Check.due("left of all with only " + item + " for " + place, Told.left(grid), fixed(item, place));
                Check.due("rounds()", grid.rounds(), 1);
            }
        }
    }

    @Says(BY_NEED)
    static void promise29TwoThatHaveAPlaceAreNotTheOnlyOne() {
        Check.due("left of all", Told.left(Cases.grid("xC1;xD1;xE3;xF3")), "ffdd77ffffff");
    }

    @Says({NOTHING_LEFT, "0 if there is a contradiction."})
    static void promise29NothingForAnyItem() {
        for (String text : CONTRADICTIONS) {
            Check.due("left of all of " + text, Told.left(Cases.grid(text)), "000000000000");
        }
    }

    @Says(NO_ITEM)
    static void promise29NoSuchItem() {
        noSuchItem(ClueGrid::left);
    }

    @Says(LOOKS)
    static void promise29ChangesNothing() {
        Cases.changesNothing("left(11)", grid -> grid.left(11));
    }

    // ---- promise 30: leftByTurns

    @Says({"- `item`: 0 to 11", "Returns the places, the same as left()."})
    static void promise30EachMaskOfEachItem() {
        for (int item = 0; item < 12; item++) {
            for (int mask = 0; mask < 16; mask++) {
                Check.due("leftByTurns(" + item + ")", withMask(item, mask).leftByTurns(item), mask);
            }
        }
    }

    @Says("Returns the places, the same as left().")
    static void promise30EachKind() {
        for (int item = 0; item < 12; item++) {
            for (int place = 0; place < 4; place++) {
                Check.due("with " + item + " at " + place, Told.leftByTurns(withMask(item, 1 << place)), fixed(item, place));
            }
        }
    }

    @Says("until none rules out anything")
    static void promise30UntilTheEnd() {
        String[] texts = {"A=E;E=I;I@3", "I@3;E=I;A=E", "A<B;B<C;C<D", "xB0;xC0;xD0", Cases.ALL_FIXED, "A=B", "A~B;B~C;A!0;A!3;C@0"};
        String[] due = {"877787778777", "877787778777", "1248ffffffff", "1eeeffffffff", "124812481248", "ffffffffffff", "4218ffffffff"};
        for (int i = 0; i < texts.length; i++) {
            Check.due("by turns of " + texts[i], Told.leftByTurns(Cases.grid(texts[i])), due[i]);
            Check.due("left of " + texts[i], Told.left(Cases.grid(texts[i])), due[i]);
        }
    }

    @Says(NOTHING_LEFT)
    static void promise30NothingForAnyItem() {
        for (String text : CONTRADICTIONS) {
            Check.due("by turns of " + text, Told.leftByTurns(Cases.grid(text)), "000000000000");
        }
    }

    @Says(NO_ITEM)
    static void promise30NoSuchItem() {
        noSuchItem(ClueGrid::leftByTurns);
    }

    @Says(LOOKS)
    static void promise30ChangesNothing() {
        Cases.changesNothing("leftByTurns(11)", grid -> grid.leftByTurns(11));
    }

    // ---- promise 31: rounds

    @Says("Returns how many.")
    static void promise31NoRound() {
        Check.due("rounds() of nothing", new ClueGrid().rounds(), 0);
        Check.due("rounds() of clues that rule out nothing", Cases.grid("A=E;B#F;C~G;D|HI").rounds(), 0);
        Check.due("rounds() of crosses alone", Cases.grid("xA0;xA1;xF2;xL3").rounds(), 0);
        ClueGrid grid = new ClueGrid();
        for (int spot = 0; spot < 48; spot++) {
            grid.cross(spot / 4, spot % 4);
        }
        Check.due("rounds() with all crossed", grid.rounds(), 0);
        ClueGrid settled = Cases.grid(Cases.ALL_FIXED);
        settled.settle();
        Check.due("rounds() after settle()", settled.rounds(), 0);
    }

    /** A@0 in the first round; then 0 is ruled out for B, C, D; no third one. */
    @Says({AT_ONCE, "Tells in how many rounds something is ruled out."})
    static void promise31OnlyByWhatWasLeftAheadOfTheRound() {
        Check.due("rounds(), the others of the kind come next", Cases.grid("A@0").rounds(), 2);
        Check.due("rounds(), one clue after the other", Cases.grid("A=E;E=I;I@3").rounds(), 4);
        Check.due("rounds(), in the order of what follows", Cases.grid("I@3;E=I;A=E").rounds(), 4);
        Check.due("rounds(), of two kinds side by side", Cases.grid("A@0;E@0;I@0").rounds(), 2);
        Check.due("rounds(), two that rule each other out", Cases.grid("A@0;B@0").rounds(), 2);
    }

    @Says(GO_ON)
    static void promise31WhateverIsLeft() {
        Check.due("rounds(), A without places after the first", Cases.grid("A@0;A@1").rounds(), 1);
        Check.due("rounds(), then E", Cases.grid("A@0;A@1;A=E").rounds(), 2);
        Check.due("rounds(), then I", Cases.grid("A@0;A@1;A=E;E=I").rounds(), 3);
        Check.due("rounds(), then B", Cases.grid("A@0;A@1;A=E;E=I;I=B").rounds(), 4);
        Check.due("rounds(), an item without places at first", Cases.grid(NO_E + "A=E").rounds(), 1);
        Check.due("rounds(), two places that need the same item", Cases.grid("xB0;xC0;xD0;xB1;xC1;xD1").rounds(), 1);
    }

    @Says(LOOKS)
    static void promise31ChangesNothing() {
        Cases.changesNothing("rounds()", ClueGrid::rounds);
    }

    // ---- promise 32: isContradiction

    @Says({CONTRADICTION, "Returns whether there is."})
    static void promise32EachItemWithoutPlaces() {
        for (int item = 0; item < 12; item++) {
            Check.due("with no place for " + item, withMask(item, 0).isContradiction(), true);
            for (int mask = 1; mask < 16; mask++) {
                Check.due("with " + mask + " for " + item, withMask(item, mask).isContradiction(), false);
            }
        }
    }

    @Says(CONTRADICTION)
    static void promise32EachPlaceWithoutItemsOfAKind() {
        for (int kind = 0; kind < 3; kind++) {
            for (int place = 0; place < 4; place++) {
                ClueGrid grid = new ClueGrid();
                for (int i = 0; i < 4; i++) {
                    Check.due("with " + i + " crosses", grid.isContradiction(), false);
                    grid.cross(4 * kind + i, place);
                }
                Check.due("with no item of the kind " + kind + " for " + place, grid.isContradiction(), true);
                Check.due("rounds()", grid.rounds(), 0);
            }
        }
    }

    @Says("or some place is left for no item of some kind")
    static void promise32CrossesOfOtherKindsDoNotCount() {
        Check.due("three of each kind", Cases.grid("xA0;xB0;xC0;xF0;xG0;xH0;xI0;xK0;xL0").isContradiction(), false);
    }

    @Says("if at the end")
    static void promise32OnlyAfterSomeRounds() {
        ClueGrid grid = Cases.grid("A=E;E=I;I@3;A!3");
        Check.due("hint()", grid.hint(), 3);
        Check.due("isContradiction()", grid.isContradiction(), true);
        grid.withdraw(3);
        Check.due("isContradiction() without A!3", grid.isContradiction(), false);
    }

    @Says("Tells whether there is a contradiction.")
    static void promise32NoSolutionsAreNone() {
        for (String text : new String[] {"A=B", "A|BC", "A=E;B=E", "xA2;xA3;xB2;xB3;xC2;xC3"}) {
            ClueGrid grid = Cases.grid(text);
            Check.due("solutions() of " + text, grid.solutions(), 0);
            Check.due("isContradiction() of " + text, grid.isContradiction(), text.startsWith("x"));
        }
    }

    @Says(LOOKS)
    static void promise32ChangesNothing() {
        Cases.changesNothing("isContradiction()", grid -> grid.isContradiction() ? 1 : 0);
    }

    // ---- promise 33: fixedAt

    @Says({"- `item`: 0 to 11", "Returns the only place that is left for it at the end; NONE if there are more, or there is a contradiction."})
    static void promise33EachMaskOfEachItem() {
        for (int item = 0; item < 12; item++) {
            for (int mask = 0; mask < 16; mask++) {
                int due = mask == 1 ? 0 : mask == 2 ? 1 : mask == 4 ? 2 : mask == 8 ? 3 : NONE;
                Check.due("fixedAt(" + item + ") with " + mask, withMask(item, mask).fixedAt(item), due);
            }
        }
    }

    @Says("NONE if there are more, or there is a contradiction.")
    static void promise33NoneWithAContradiction() {
        for (String text : CONTRADICTIONS) {
            ClueGrid grid = Cases.grid(text);
            crossBut(grid, 6, 4);
            for (int item = 0; item < 12; item++) {
                Check.due("fixedAt(" + item + ") of " + text, grid.fixedAt(item), NONE);
            }
        }
    }

    @Says("left for it at the end")
    static void promise33AfterTheLastRound() {
        ClueGrid grid = Cases.grid("A=E;E=I;I@3");
        Check.due("fixedAt(0)", grid.fixedAt(0), 3);
        Check.due("fixedAt(4)", grid.fixedAt(4), 3);
        Check.due("fixedAt(8)", grid.fixedAt(8), 3);
        Check.due("fixedAt(1)", grid.fixedAt(1), NONE);
    }

    @Says(NO_ITEM)
    static void promise33NoSuchItem() {
        noSuchItem(ClueGrid::fixedAt);
    }

    @Says(LOOKS)
    static void promise33ChangesNothing() {
        Cases.changesNothing("fixedAt(11)", grid -> grid.fixedAt(11));
    }

    // ---- promise 34: fixedItems

    /** The fourth of a kind is fixed when the third is. */
    @Says("Returns how many.")
    static void promise34ReturnsFrom0To12() {
        ClueGrid grid = new ClueGrid();
        int[] due = {1, 2, 4, 4, 5, 6, 8, 8, 9, 10, 12, 12};
        Check.due("fixedItems() of nothing", grid.fixedItems(), 0);
        for (int item = 0; item < 12; item++) {
            crossBut(grid, item, 1 << (3 - item % 4));
            Check.due("fixedItems() with " + item, grid.fixedItems(), due[item]);
        }
    }

    @Says("Tells how many items are fixed by propagation.")
    static void promise34NoneWithAContradiction() {
        for (String text : CONTRADICTIONS) {
            ClueGrid grid = Cases.grid(text);
            crossBut(grid, 6, 4);
            Check.due("fixedItems() of " + text, grid.fixedItems(), 0);
        }
    }

    @Says(LOOKS)
    static void promise34ChangesNothing() {
        Cases.changesNothing("fixedItems()", ClueGrid::fixedItems);
    }

    // ---- promise 35: hint

    @Says("Returns 4 times the item and the place, together, of the least item, and of its least place")
    static void promise35ReturnsFrom0To47() {
        for (int spot = 0; spot < 48; spot++) {
            ClueGrid grid = new ClueGrid();
            grid.notAt(spot / 4, spot % 4);
            Check.due("hint()", grid.hint(), spot);
        }
    }

    @Says("of the least item, and of its least place")
    static void promise35TheLeastOfSeveral() {
        Check.due("hint(), the first clue is of the greater item", Cases.grid("L!0;B!3;B!1").hint(), 5);
        Check.due("hint(), the least place is of the greater item", Cases.grid("C!0;B!3").hint(), 7);
        Check.due("hint(), by need and by a clue", Cases.grid("B!0;xB3;xC3;xD3").hint(), 0);
        Check.due("hint(), by another item and by a clue", Cases.grid("B!0;xD0;xD1;xD2").hint(), 3);
    }

    @Says("NONE if none is.")
    static void promise35None() {
        Check.due("hint() of nothing", new ClueGrid().hint(), NONE);
        Check.due("hint() of clues that rule out nothing", Cases.grid("A=E;B#F;C~G;D|HI").hint(), NONE);
        Check.due("hint() of an item without places", Cases.grid("xA0;xA1;xA2;xA3").hint(), NONE);
        Check.due("hint() of a place without items", Cases.grid("xA3;xB3;xC3;xD3").hint(), NONE);
        ClueGrid settled = Cases.grid(Cases.ALL_FIXED);
        settled.settle();
        Check.due("hint() after settle()", settled.hint(), NONE);
    }

    @Says({"that is not crossed out", "A place is ruled out for an item, if it is left, and one of these is so"})
    static void promise35NotWhatIsCrossedOut() {
        Check.due("hint(), A0 crossed", Cases.grid("A!0;A!2;xA0").hint(), 2);
        Check.due("hint(), all crossed that is ruled out", Cases.grid("A!0;A!2;xA0;xA2").hint(), NONE);
        Check.due("hint(), all but the others' crossed", Cases.grid("A@2;xA0;xA1;xA3").hint(), 6);
    }

    @Says("and is ruled out in the first round")
    static void promise35NotByALaterRound() {
        Check.due("hint(), B would come next", Cases.grid("D@0").hint(), 13);
        Check.due("hint(), A would come next", Cases.grid("I@0;A=I").hint(), 33);
    }

    /** An item without places leaves no clue a choice: each place of the others is ruled out. */
    @Says(BY_CLUE)
    static void promise35ByAnItemWithoutPlaces() {
        String[] clues = {"A=E", "E=A", "A#E", "E#A", "A<E", "E<A", "A~E", "E~A", "A|EI", "A|IE", "I|AE", "I|EA", "E|AI", "E|IA"};
        for (String clue : clues) {
            for (int place = 0; place < 4; place++) {
                ClueGrid grid = Cases.grid(NO_E + clue);
                crossBut(grid, 0, 1 << place);
                Check.due("hint() of " + clue, grid.hint(), place);
                Check.due("hintBy() of " + clue, grid.hintBy(), 0);
            }
        }
    }

    @Says(LOOKS)
    static void promise35ChangesNothing() {
        Cases.changesNothing("hint()", ClueGrid::hint);
    }

    // ---- promise 36: hintBy

    @Says("Returns the lowest clue by which it is")
    static void promise36ReturnsFrom0To11() {
        for (int first = 0; first < 12; first++) {
            ClueGrid grid = new ClueGrid();
            for (int i = 0; i < 12; i++) {
                if (i < first) {
                    grid.apart(0, 4);
                } else {
                    grid.notAt(0, 3);
                }
            }
            Check.due("hintBy() with " + first + " ahead", grid.hintBy(), first);
        }
    }

    @Says("12 if by none, but by another item of its kind that has this place left alone")
    static void promise36ByAnotherItem() {
        for (int item = 0; item < 12; item++) {
            for (int place = 0; place < 4; place++) {
                ClueGrid grid = withMask(item, 1 << place);
                int least = item % 4 == 0 ? item + 1 : item / 4 * 4;
                Check.due("hint()", grid.hint(), 4 * least + place);
                Check.due("hintBy()", grid.hintBy(), 12);
            }
        }
    }

    @Says("13 if by neither, but as the item is the only one of its kind with some other place")
    static void promise36ByNeed() {
        for (int item = 0; item < 12; item++) {
            for (int place = 0; place < 4; place++) {
                ClueGrid grid = new ClueGrid();
                for (int other = item / 4 * 4; other < item / 4 * 4 + 4; other++) {
                    if (other != item) {
                        grid.cross(other, place);
                    }
                }
                Check.due("hint()", grid.hint(), 4 * item + (place == 0 ? 1 : 0));
                Check.due("hintBy()", grid.hintBy(), 13);
            }
        }
    }

    /** An item that two places need: each of the two rules the other one out. */
    @Says({BY_NEED, "13 if by neither"})
    static void promise36ByTwoNeeds() {
        for (int one = 0; one < 4; one++) {
            for (int other = one + 1; other < 4; other++) {
                ClueGrid grid = new ClueGrid();
                for (int item = 0; item < 4; item++) {
                    int both = 1 << one | 1 << other;
                    crossBut(grid, item, item == 0 ? both : 15 - both);
                }
                Check.due("hint()", grid.hint(), one);
                Check.due("hintBy()", grid.hintBy(), 13);
                Check.due("rounds()", grid.rounds(), 1);
                Check.due("isContradiction(), as A loses both", grid.isContradiction(), true);
            }
        }
    }

    @Says("12 if by none")
    static void promise36TheOrderOfTheCauses() {
        Check.due("hintBy(), by a clue and by another item", Cases.grid("C#E;B!0;xA1;xA2;xA3").hintBy(), 1);
        Check.due("hintBy(), by a clue and by need", Cases.grid("C#E;A!0;xB3;xC3;xD3").hintBy(), 1);
        Check.due("hintBy(), by another item and by need", Cases.grid("xA0;xA1;xA2;xC0;xD0;xB1;xB2").hintBy(), 12);
        ClueGrid full = Cases.grid("A#E;A#E;A#E;A#E;A#E;A#E;A#E;A#E;A#E;A#E;A#E;A#E", "xA1;xA2;xA3");
        full.cross(4, 0);
        Check.due("hintBy() with twelve clues that rule out nothing", full.hintBy(), 12);
    }

    @Says("NONE without a hint.")
    static void promise36None() {
        Check.due("hintBy() of nothing", new ClueGrid().hintBy(), NONE);
        Check.due("hintBy() of clues that rule out nothing", Cases.grid("A=E;B#F;C~G;D|HI").hintBy(), NONE);
        Check.due("hintBy() of an item without places", Cases.grid("xA0;xA1;xA2;xA3").hintBy(), NONE);
        Check.due("hintBy() of what is crossed out", Cases.grid("A!0;xA0").hintBy(), NONE);
    }

    @Says(LOOKS)
    static void promise36ChangesNothing() {
        Cases.changesNothing("hintBy()", ClueGrid::hintBy);
    }
}
