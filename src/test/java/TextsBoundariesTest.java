/** The boundary cases of the texts: promises 14 to 17, and the terms that they rest on. */
final class TextsBoundariesTest {
    private static final String ORDER = "If several exceptions apply, the one that is named first in the throws clause is thrown.";
    private static final String BUFFER_APART = "all but the buffer, the snapshot and the saved states";
    private static final String PAIR = "an item, one of \"=\", \"#\", \"<\" and \"~\", and another item";
    private static final String PLACED = "an item, one of \"@\" and \"!\", and a place, 0 to 3";
    private static final String EITHER = "an item, \"|\", and two other items, which are unlike";
    private static final String CROSS = "or \"x\", an item, and a place (it is crossed out)";
    private static final String NOT_WHOLE = "Throws `IllegalArgumentException` if the buffer is not a complete text";
    private static final String UP_TO = "up to the first part for which the method would throw an exception";
    private static final String ITEMS = "ABCDEFGHIJKL";
    private static final String ELEVEN = "A#E;A#E;A#E;A#E;A#E;A#E;A#E;A#E;A#E;A#E;A#E";
    private static final String TWELVE = ELEVEN + ";L!3";

    public static void main(String[] args) {
        Cases.runAll(TextsBoundariesTest.class);
    }

    private static void sixty(ClueGrid grid) {
        for (int i = 0; i < 60; i++) {
            grid.append('A' + i);
        }
    }

    private static void busySixty(ClueGrid grid) {
        Cases.busy(grid);
        Cases.write(grid, "0123456789012345678901234567890123456789012345678901234");
    }

    // ---- promise 14: append

    @Says({"- `code`: the character code, 33 to 126", "Returns the new length of the buffer."})
    static void promise14EachCodeFrom33To126() {
        for (int code = 33; code <= 126; code++) {
            ClueGrid grid = new ClueGrid();
            Check.due("append(" + code + ")", grid.append(code), 1);
            Check.due("digest()", grid.digest(), Told.digest(grid, 0, false, String.valueOf((char) code)));
        }
    }

    @Says("Returns the new length of the buffer.")
    static void promise14ReturnsFrom1To60() {
        ClueGrid grid = new ClueGrid();
        for (int length = 1; length <= 60; length++) {
            Check.due("append(126)", grid.append(126), length);
        }
    }

    @Says("Throws `IllegalArgumentException` if code is not 33 to 126")
    static void promise14CodesBelowAndAbove() {
        int[] wrong = {32, 127, 31, 128, 0, -1, -33, -126, 255, 256, 256 + 65, 65536 + 65, Cases.LEAST, Cases.LEAST + 65, Cases.GREATEST};
        for (int code : wrong) {
            Cases.refused(Cases::nothing, "append(" + code + ")", grid -> grid.append(code), Cases.ARGUMENT);
            Cases.refused(Cases::busy, "append(" + code + ")", grid -> grid.append(code), Cases.ARGUMENT);
        }
    }

    @Says({"Throws `IllegalStateException` if the buffer has 60 characters", "The buffer has at most 60 characters."})
    static void promise14The61st() {
        Cases.refused(TextsBoundariesTest::sixty, "append(65)", grid -> grid.append(65), Cases.STATE);
        Cases.refused(TextsBoundariesTest::busySixty, "append(33)", grid -> grid.append(33), Cases.STATE);
        Cases.refused(TextsBoundariesTest::busySixty, "append(126)", grid -> grid.append(126), Cases.STATE);
        ClueGrid grid = Cases.made(TextsBoundariesTest::sixty);
        grid.clearBuffer();
        Check.due("append(65) when it is cleared", grid.append(65), 1);
    }

    @Says(ORDER)
    static void promise14SeveralExceptionsApply() {
        for (int code : new int[] {32, 127, -1, Cases.LEAST, Cases.GREATEST}) {
            Cases.refused(TextsBoundariesTest::sixty, "append(" + code + ")", grid -> grid.append(code), Cases.ARGUMENT);
        }
    }

    @Says(BUFFER_APART)
    static void promise14IsNotUndoable() {
        Cases.savesNothing(Cases::nothing, "append(65)", grid -> grid.append(65));
        Cases.savesNothing(Cases::busy, "append(65)", grid -> grid.append(65));
    }

    // ---- promise 15: clearBuffer

    @Says("Returns the length that it had.")
    static void promise15ReturnsFrom0To60() {
        for (int length = 0; length <= 60; length++) {
            ClueGrid grid = new ClueGrid();
            for (int i = 0; i < length; i++) {
                grid.append(33);
            }
            Check.due("clearBuffer()", grid.clearBuffer(), length);
            Check.due("clearBuffer() again", grid.clearBuffer(), 0);
        }
    }

    @Says("Clears the buffer.")
    static void promise15NothingIsLeftInIt() {
        ClueGrid grid = Cases.made(TextsBoundariesTest::sixty);
        grid.clearBuffer();
        Check.due("digest()", grid.digest(), new ClueGrid().digest());
        Cases.write(grid, "B");
        Check.due("firstError()", grid.firstError(), 1);
        Cases.refused(each -> {
            sixty(each);
            each.clearBuffer();
        }, "take() of what is cleared", ClueGrid::take, Cases.ARGUMENT);
    }

    @Says(BUFFER_APART)
    static void promise15IsNotUndoable() {
        Cases.savesNothing(Cases::nothing, "clearBuffer()", ClueGrid::clearBuffer);
        Cases.savesNothing(Cases::busy, "clearBuffer()", ClueGrid::clearBuffer);
        ClueGrid grid = Cases.made(Cases::busy);
        grid.clearBuffer();
        grid.undo();
        Check.due("clearBuffer() after undo()", grid.clearBuffer(), 0);
    }

    // ---- promise 16: firstError

    /** After the text just these characters are none that is a syntax error. */
    private static void follow(String text, String right) {
        for (int code = 33; code <= 126; code++) {
            ClueGrid grid = new ClueGrid();
            Cases.write(grid, text);
            Check.due("firstError() of " + text, grid.firstError(), text.length());
            grid.append(code);
            int due = right.indexOf(code) >= 0 ? text.length() + 1 : text.length();
            Check.due("firstError() of " + text + (char) code, grid.firstError(), due);
        }
    }

    private static String itemsBut(String those) {
        StringBuilder rest = new StringBuilder();
        for (char item : ITEMS.toCharArray()) {
            if (those.indexOf(item) < 0) {
                rest.append(item);
            }
        }
        return rest.toString();
    }

    private static void error(String text, int due) {
        ClueGrid grid = new ClueGrid();
        Cases.write(grid, text);
        Check.due("firstError() of " + text, grid.firstError(), due);
    }

    @Says("12 items, 0 to 11, in texts \"A\" to \"L\"")
    static void promise16APartBegins() {
        for (String text : new String[] {"", "A=B;", "A@0;", "A|BC;", "xA0;", "A=B;L|KJ;"}) {
            follow(text, ITEMS + "x");
        }
    }

    @Says(PAIR)
    static void promise16AfterAnItem() {
        for (char item : ITEMS.toCharArray()) {
            follow(String.valueOf(item), "=#<~@!|");
            follow("xA0;" + item, "=#<~@!|");
        }
    }

    @Says({PAIR, "(so \"A=A\" has its error at the second A)"})
    static void promise16AnotherItem() {
        for (char item : ITEMS.toCharArray()) {
            for (char sign : "=#<~".toCharArray()) {
                follow("" + item + sign, itemsBut(String.valueOf(item)));
            }
        }
        error("A=A", 2);
    }

    @Says(PLACED)
    static void promise16APlace() {
        for (char item : ITEMS.toCharArray()) {
            follow(item + "@", "0123");
            follow(item + "!", "0123");
        }
    }

    @Says(EITHER)
    static void promise16TwoOtherItems() {
        for (char item : ITEMS.toCharArray()) {
            follow(item + "|", itemsBut(String.valueOf(item)));
            for (char one : itemsBut(String.valueOf(item)).toCharArray()) {
                follow(item + "|" + one, itemsBut("" + item + one));
            }
        }
    }

    @Says(CROSS)
    static void promise16ACross() {
        follow("x", ITEMS);
        follow("A=B;x", ITEMS);
        for (char item : ITEMS.toCharArray()) {
            follow("x" + item, "0123");
        }
    }

    @Says("A text is one or more parts with \";\" between them")
    static void promise16APartEnds() {
        String[] texts = {"A=B", "L#K", "A<L", "L~A", "A@0", "L!3", "A|BC", "L|KJ", "xA0", "xL3", "A=B;xA0", "xA0;A|BC", "A|BC;A=B"};
        for (String text : texts) {
            follow(text, ";");
        }
    }

    @Says("Returns the index of the first character that is a syntax error; the length of the buffer if there is none.")
    static void promise16ReturnsFrom0To60() {
        String whole = ELEVEN + ";xA0;xA1;xA2;A|EF";
        for (int length = 0; length <= 60; length++) {
            error(whole.substring(0, length), length);
        }
        for (int at = 0; at < 60; at++) {
            error(whole.substring(0, at) + "?" + whole.substring(at + 1), at);
            error(whole.substring(0, at) + "?", at);
        }
    }

    @Says("a character is a syntax error if no text, of any length, begins with the characters before it and this character")
    static void promise16WhatComesLaterIsNothing() {
        error("M=B", 0);
        error("A=A;B=B", 2);
        error("A=B;;A=B", 4);
        error("A?B=C", 1);
        error("xx0;A=B", 1);
        error(";A=B", 0);
        error("A|BB;A=B;A=C", 3);
        error(ELEVEN + ";A#E;A#E;A#E;A#E;", 60);
    }

    /** A text that only a longer buffer could hold, or that take() would not do whole, is none the less right. */
    @Says("of any length")
    static void promise16OnlyTheFormCounts() {
        error(TWELVE + ";A=B;A=B;A|EF", 60);
        error("xA0;xA0", 7);
        ClueGrid grid = Cases.made(Cases::full);
        grid.clearBuffer();
        Cases.write(grid, "A=B;xA0");
        Check.due("firstError() with 12 clues", grid.firstError(), 7);
    }

    @Says("Finds the first syntax error of the buffer.")
    static void promise16ChangesNothing() {
        Cases.changesNothing("firstError()", ClueGrid::firstError);
        Cases.changesNothing(TextsBoundariesTest::busySixty, "firstError()", ClueGrid::firstError);
    }

    // ---- promise 17: take

    @Says({"Returns how many parts are done.", "The buffer has at most 60 characters."})
    static void promise17ReturnsFrom0To15() {
        ClueGrid grid = new ClueGrid();
        Cases.write(grid, ELEVEN + ";A|EF;xA0;xA1;xA2");
        Check.due("take() of 15 parts", grid.take(), 15);
        Check.due("clues() of them", grid.clues(), 12);
        Check.due("crosses() of them", grid.crosses(), 3);
        Check.due("take() of one part", one(grid, "xA3"), 1);
        Check.due("take() of a part that is not done", one(grid, "xA3"), 0);
    }

    private static int one(ClueGrid grid, String text) {
        Cases.write(grid, text);
        return grid.take();
    }

    @Says(PAIR)
    static void promise17PairsOfTheFirstAndTheLastItem() {
        ClueGrid grid = Cases.grid("A=L;L#A;A<L;L~A");
        String[] due = {"0:0,11,-1@-1", "1:11,0,-1@-1", "2:0,11,-1@-1", "3:11,0,-1@-1"};
        for (int i = 0; i < due.length; i++) {
            Check.due("the clue " + i, Told.clue(grid, i), due[i]);
        }
    }

    @Says(PLACED)
    static void promise17PlacesFrom0To3() {
        ClueGrid grid = Cases.grid("A@0;L@3;A!3;L!0");
        String[] due = {"4:0,-1,-1@0", "4:11,-1,-1@3", "5:0,-1,-1@3", "5:11,-1,-1@0"};
        for (int i = 0; i < due.length; i++) {
            Check.due("the clue " + i, Told.clue(grid, i), due[i]);
        }
    }

    @Says(EITHER)
    static void promise17EitherOfTheFirstAndTheLastItems() {
        ClueGrid grid = Cases.grid("A|BL;L|KA;B|AL");
        Check.due("the clue 0", Told.clue(grid, 0), "6:0,1,11@-1");
        Check.due("the clue 1", Told.clue(grid, 1), "6:11,10,0@-1");
        Check.due("the clue 2", Told.clue(grid, 2), "6:1,0,11@-1");
    }

    @Says(CROSS)
    static void promise17EachCross() {
        for (int spot = 0; spot < 48; spot++) {
            ClueGrid grid = Cases.grid("x" + ITEMS.charAt(spot / 4) + spot % 4);
            Check.due("clues()", grid.clues(), 0);
            Check.due("crosses()", grid.crosses(), 1);
            Check.due("isCrossed of " + spot, grid.isCrossed(spot / 4, spot % 4), true);
        }
    }

    @Says({NOT_WHOLE, "A text is one or more parts"})
    static void promise17TheEmptyBuffer() {
        Cases.refused(Cases::nothing, "take() of nothing", ClueGrid::take, Cases.ARGUMENT);
        Cases.refused(grid -> {
            Cases.busy(grid);
            grid.clearBuffer();
        }, "take() of nothing", ClueGrid::take, Cases.ARGUMENT);
    }

    private static void notWhole(String text) {
        Cases.refused(grid -> {
            Cases.busy(grid);
            grid.clearBuffer();
            Cases.write(grid, text);
        }, "take() of " + text, ClueGrid::take, Cases.ARGUMENT);
    }

    @Says(NOT_WHOLE)
    static void promise17EachBeginning() {
        String whole = "A=B;C|DE;xF0;G@3;H!1;xI2;J|KL";
        for (int length = 1; length < whole.length(); length++) {
            String text = whole.substring(0, length);
            if (whole.charAt(length) == ';') {
                Check.due("parts of " + text, one(new ClueGrid(), text), text.split(";").length);
            } else {
                notWhole(text);
            }
        }
        Check.due("parts of " + whole, one(new ClueGrid(), whole), 7);
    }

    @Says(NOT_WHOLE)
    static void promise17ASyntaxErrorInAnyPart() {
        String[] texts = {"A=A", "M=A", "A@4", "xM0", "xA4", "A|BB", "A=B;;C=D", ";A=B", "A=B;C=C", "C=C;A=B", "A=BC", "xA00", "A|BCD",
            "A=B;A|BB;C=D", "a=b", "XA0", "A=B,C=D"};
        for (String text : texts) {
            notWhole(text);
        }
    }

    @Says(NOT_WHOLE)
    static void promise17SixtyCharacters() {
        String[] ends = {";A#E;A#E;A#E;A#E;", ";A|EF;A|EF;A|EF;A", ";A|EF;A|EF;A|EF;x", ";A|EF;A|EF;xA0;A=", ";A|EF;A|EF;xA0;xA",
            ";A|EF;xA0;xA1;A|B", ";xA0;xA1;xA2;xAA0", ";xA0;xA1;xA2;A|EE"};
        for (String end : ends) {
            Check.due("the length of the text", (ELEVEN + end).length(), 60);
            notWhole(ELEVEN + end);
        }
    }

    @Says(UP_TO)
    static void promise17UpToThe13thClue() {
        ClueGrid grid = new ClueGrid();
        Check.due("take() of 13 clues and a cross", one(grid, TWELVE + ";A=B;xA0"), 12);
        Check.due("clues()", grid.clues(), 12);
        Check.due("the last clue", Told.clue(grid, 11), "5:11,-1,-1@3");
        Check.due("crosses()", grid.crosses(), 0);
        for (String part : new String[] {"A=B", "A#B", "A<B", "A~B", "A@0", "A!0", "A|BC"}) {
            Check.due("take() of " + part + " with 12", one(grid, part + ";xA0"), 0);
        }
        Check.due("clues()", grid.clues(), 12);
        Check.due("take() of a cross with 12", one(grid, "xA0;A=B;xA1"), 1);
        grid.withdraw(0);
        Check.due("take() of two clues with 11", one(grid, "A=B;A=B"), 1);
    }

    @Says(UP_TO)
    static void promise17UpToACrossThatIsThere() {
        ClueGrid grid = Cases.grid("xL3");
        Check.due("take()", one(grid, "A=B;xL2;xL3;xL1;C=D"), 2);
        Check.due("clues()", grid.clues(), 1);
        Check.due("isCrossed(11, 2)", grid.isCrossed(11, 2), true);
        Check.due("isCrossed(11, 1)", grid.isCrossed(11, 1), false);
        Check.due("made()", grid.made(), 2);
        Check.due("take() of a cross twice", one(grid, "xL1;xL1"), 1);
        Check.due("take() of a cross that is there", one(grid, "xL1;xL0"), 0);
        grid.rubOut(11, 1);
        Check.due("take() of a cross that was there", one(grid, "xL1"), 1);
    }

    @Says("and clears the buffer")
    static void promise17ClearsWhatIsNotDoneToo() {
        for (String text : new String[] {"A=B", "xA0;xA0;A=B", "xA0;A=B;C=D"}) {
            ClueGrid grid = Cases.grid("xB0");
            one(grid, text);
            Check.due("clearBuffer() after take() of " + text, grid.clearBuffer(), 0);
            one(grid, "xB0;A=B");
            Check.due("clearBuffer() after take() of nothing", grid.clearBuffer(), 0);
        }
    }

    @Says("A call that throws an exception changes nothing.")
    static void promise17TheBufferStaysIfRefused() {
        ClueGrid grid = new ClueGrid();
        Cases.write(grid, "A=B;");
        Check.due("take()", Check.outcome(grid::take), Cases.ARGUMENT);
        Check.due("take() when it is whole", one(grid, "C=D"), 2);
    }

    @Says("Undoable, as one call, also if nothing is done.")
    static void promise17Undoable() {
        Cases.undoable(TextsBoundariesTest::withSixParts, "take() of six parts", ClueGrid::take);
        Cases.undoable(grid -> {
            Cases.busy(grid);
            grid.clearBuffer();
            Cases.write(grid, "A=B;xB0;xB0");
        }, "take() of two parts of three", ClueGrid::take);
    }

    private static void withSixParts(ClueGrid grid) {
        Cases.write(grid, "A=B;xA0;C|DE;xA1;F@0;xA2");
    }

    @Says("Undoable, as one call, also if nothing is done.")
    static void promise17UndoableIfNothingIsDone() {
        Cases.undoable(grid -> {
            grid.cross(0, 0);
            Cases.write(grid, "xA0;A=B");
        }, "take() of nothing", ClueGrid::take);
        Cases.undoable(grid -> {
            Cases.full(grid);
            grid.clearBuffer();
            Cases.write(grid, "A=B;xB0");
        }, "take() of nothing with 12 clues", ClueGrid::take);
    }

    @Says(BUFFER_APART)
    static void promise17UndoDoesNotBringTheBufferBack() {
        ClueGrid grid = Cases.grid("A=B;xA0");
        grid.undo();
        Check.due("clearBuffer()", grid.clearBuffer(), 0);
        Check.due("clues()", grid.clues(), 0);
        Check.due("made()", grid.made(), 0);
    }
}
