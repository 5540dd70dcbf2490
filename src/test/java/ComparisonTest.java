import java.util.function.LongSupplier;

/**
 * Long runs of calls on ClueGrid and on PlainGrid: each call has to answer or
 * throw the same. The calls are drawn by a fixed row of numbers, so that each
 * run of the test is the same. A second argument sets how many runs there are.
 */
final class ComparisonTest {
    private static final String SIGNS = "=#<~@!|";
    private static long seed;

    private final ClueGrid grid = new ClueGrid();
    private final PlainGrid plain = new PlainGrid();
    /** Most clues and crosses of a run are true of this arrangement, so that they leave something. */
    private final int[] truth = new int[12];
    private final int truthOfTen;
    private final int run;
    private int calls = 0;

    private ComparisonTest(int run) {
        this.run = run;
        this.truthOfTen = run % 3 == 0 ? 0 : run % 3 == 1 ? 8 : 10;
        for (int kind = 0; kind < 3; kind++) {
            for (int i = 0; i < 4; i++) {
                int with = draw(i + 1);
                truth[4 * kind + i] = truth[4 * kind + with];
                truth[4 * kind + with] = i;
            }
        }
    }

    public static void main(String[] args) {
        int runs = args.length > 1 ? Integer.parseInt(args[1]) : 90;
        for (int run = 0; run < runs && Check.wrongSoFar() == 0; run++) {
            seed = 1000003L * run + 17;
            new ComparisonTest(run).walk();
        }
        Check.end("ComparisonTest");
    }

    private static int draw(int bound) {
        seed = seed * 6364136223846793005L + 1442695040888963407L;
        return (int) ((seed >>> 33) % bound);
    }

    private void walk() {
        for (int step = 0; calls < 480; step++) {
            switch (draw(12)) {
                case 0: case 1: case 2: addClue(); break;
                case 3: case 4: changeCrosses(); break;
                case 5: appendText(); break;
                case 6: moveStates(); break;
                case 7: withdraw(); break;
                case 8: propagationLooks(); break;
                case 9: solutionLooks(); break;
                case 10: clueLooks(); break;
                default: wrongArguments(); break;
            }
            if (step % 7 == 0) {
                compare("digest()", grid::digest, plain::digest);
            }
        }
        compare("digest()", grid::digest, plain::digest);
    }

    private void compare(String call, LongSupplier one, LongSupplier other) {
        calls++;
        Check.about("run " + run + ", call " + calls);
        Check.due(call, Check.outcome(one), Check.outcome(other));
    }

    private boolean wantsTruth() {
        return draw(10) < truthOfTen;
    }

    // ---- changes

    private void addClue() {
        int x = draw(12);
        int y = draw(12);
        int z = draw(12);
        int place = draw(4);
        int sort = draw(7);
        if (wantsTruth() && !isTrue(sort, x, y, z, place)) {
            return;
        }
        addClue(sort, x, y, z, place);
    }

    private boolean isTrue(int sort, int x, int y, int z, int place) {
        switch (sort) {
            case 0: return truth[x] == truth[y];
            case 1: return truth[x] != truth[y];
            case 2: return truth[x] < truth[y];
            case 3: return Math.abs(truth[x] - truth[y]) == 1;
            case 4: return truth[x] == place;
            case 5: return truth[x] != place;
            default: return truth[x] == truth[y] || truth[x] == truth[z];
        }
    }

    private void addClue(int sort, int x, int y, int z, int place) {
        switch (sort) {
            case 0: compare("same(" + x + ", " + y + ")", () -> grid.same(x, y), () -> plain.same(x, y)); break;
            case 1: compare("apart(" + x + ", " + y + ")", () -> grid.apart(x, y), () -> plain.apart(x, y)); break;
            case 2: compare("leftOf(" + x + ", " + y + ")", () -> grid.leftOf(x, y), () -> plain.leftOf(x, y)); break;
            case 3: compare("nextTo(" + x + ", " + y + ")", () -> grid.nextTo(x, y), () -> plain.nextTo(x, y)); break;
            case 4: compare("at(" + x + ", " + place + ")", () -> grid.at(x, place), () -> plain.at(x, place)); break;
            case 5: compare("notAt(" + x + ", " + place + ")", () -> grid.notAt(x, place), () -> plain.notAt(x, place)); break;
            default: compare("either(" + x + ", " + y + ", " + z + ")",
                    () -> grid.either(x, y, z), () -> plain.either(x, y, z));
        }
    }

    private void withdraw() {
        int clue = draw(8);
        compare("withdraw(" + clue + ")", () -> grid.withdraw(clue), () -> plain.withdraw(clue));
    }

    private void changeCrosses() {
        int item = draw(12);
        int place = draw(4);
        switch (draw(16)) {
            case 0: compare("rubAllOut()", grid::rubAllOut, plain::rubAllOut); break;
            case 1: case 2: compare("settle()", grid::settle, plain::settle); break;
            case 3: case 4:
                compare("rubOut(" + item + ", " + place + ")", () -> grid.rubOut(item, place), () -> plain.rubOut(item, place));
                break;
            default:
                if (!wantsTruth() || truth[item] != place) {
                    compare("cross(" + item + ", " + place + ")", () -> grid.cross(item, place), () -> plain.cross(item, place));
                }
        }
    }

    private void moveStates() {
        switch (draw(7)) {
            case 0: case 1: compare("keep()", grid::keep, plain::keep); break;
            case 2: case 3: compare("goBack()", grid::goBack, plain::goBack); break;
            default:
                for (int i = draw(8); i >= 0; i--) {
                    compare("undo()", grid::undo, plain::undo);
                }
        }
    }

    // ---- texts

    private void appendText() {
        StringBuilder text = new StringBuilder();
        for (int i = draw(4); i >= 0; i--) {
            text.append(part()).append(i > 0 || draw(6) == 0 ? ";" : "");
        }
        if (draw(4) == 0 && text.length() > 0) {
            text.setCharAt(draw(text.length()), "ALMx034=@|;~ z!?".charAt(draw(16)));
        }
        for (int i = 0; i < text.length(); i++) {
            int code = text.charAt(i);
            compare("append(" + code + ")", () -> grid.append(code), () -> plain.append(code));
        }
        compare("firstError()", grid::firstError, plain::firstError);
        compare("take()", grid::take, plain::take);
        if (draw(3) != 0) {
            compare("clearBuffer()", grid::clearBuffer, plain::clearBuffer);
        }
    }

    private String part() {
        int x = draw(12);
        int y = draw(12);
        int z = draw(12);
        int place = draw(4);
        int sort = draw(8);
        if (sort == 7) {
            return wantsTruth() && truth[x] == place ? "xA" + (truth[0] + 1) % 4 : "x" + letter(x) + place;
        }
        if (wantsTruth() && !isTrue(sort, x, y, z, place)) {
            return letter(x) + "@" + truth[x];
        }
        String begin = letter(x) + SIGNS.charAt(sort);
        return sort == 6 ? begin + letter(y) + letter(z) : sort >= 4 ? begin + place : begin + letter(y);
    }

    private static String letter(int item) {
        return String.valueOf((char) ('A' + item));
    }

    // ---- looks

    private void clueLooks() {
        int clue = draw(14) - 1;
        int part = draw(5) - 1;
        int item = draw(12);
        int place = draw(4);
        switch (draw(8)) {
            case 0: compare("clues()", grid::clues, plain::clues); break;
            case 1: compare("sortOf(" + clue + ")", () -> grid.sortOf(clue), () -> plain.sortOf(clue)); break;
            case 2: compare("itemOf(" + clue + ", " + part + ")", () -> grid.itemOf(clue, part), () -> plain.itemOf(clue, part)); break;
            case 3: compare("placeOf(" + clue + ")", () -> grid.placeOf(clue), () -> plain.placeOf(clue)); break;
            case 4: compare("isCrossed(" + item + ", " + place + ")",
                    Check.flag(() -> grid.isCrossed(item, place)), Check.flag(() -> plain.isCrossed(item, place))); break;
            case 5: compare("crosses()", grid::crosses, plain::crosses); break;
            case 6: compare("crossesByAccount()", grid::crossesByAccount, plain::crossesByAccount); break;
            default: compare("made()", grid::made, plain::made);
        }
    }

    private void propagationLooks() {
        int item = draw(12);
        compare("left(" + item + ")", () -> grid.left(item), () -> plain.left(item));
        compare("leftByTurns(" + item + ")", () -> grid.leftByTurns(item), () -> plain.leftByTurns(item));
        compare("rounds()", grid::rounds, plain::rounds);
        compare("isContradiction()", Check.flag(grid::isContradiction), Check.flag(plain::isContradiction));
        compare("fixedAt(" + item + ")", () -> grid.fixedAt(item), () -> plain.fixedAt(item));
        compare("fixedItems()", grid::fixedItems, plain::fixedItems);
        compare("hint()", grid::hint, plain::hint);
        compare("hintBy()", grid::hintBy, plain::hintBy);
        compare("fixedShare()", () -> Double.doubleToLongBits(grid.fixedShare()), () -> Double.doubleToLongBits(plain.fixedShare()));
        compare("meanLeft()", () -> Float.floatToIntBits(grid.meanLeft()), () -> Float.floatToIntBits(plain.meanLeft()));
    }

    private void solutionLooks() {
        int item = draw(12);
        int clue = draw(13);
        int count = Math.max(1, plain.solutions());
        int rank = draw(count) + draw(3) - 1;
        compare("solutions()", grid::solutions, plain::solutions);
        compare("solutionsBySearch()", grid::solutionsBySearch, plain::solutionsBySearch);
        compare("placeIn(" + rank + ", " + item + ")", () -> grid.placeIn(rank, item), () -> plain.placeIn(rank, item));
        compare("trulyLeft(" + item + ")", () -> grid.trulyLeft(item), () -> plain.trulyLeft(item));
        compare("isSpare(" + clue + ")", Check.flag(() -> grid.isSpare(clue)), Check.flag(() -> plain.isSpare(clue)));
        compare("culprit()", grid::culprit, plain::culprit);
        compare("barredBy(" + clue + ")", () -> grid.barredBy(clue), () -> plain.barredBy(clue));
        compare("isPlain()", Check.flag(grid::isPlain), Check.flag(plain::isPlain));
    }

    // ---- wrong arguments, of any size

    private static int anyInt() {
        int[] odd = {-1, -2, 12, 13, 4, 3, 11, 0, 15, 16, 60, 61, 32, 33, 126, 127,
            Integer.MIN_VALUE, Integer.MAX_VALUE, Integer.MIN_VALUE + 1, 1 << 30, -16, 256};
        return odd[draw(odd.length)];
    }

    private void wrongArguments() {
        int a = draw(2) == 0 ? anyInt() : draw(12);
        int b = draw(2) == 0 ? anyInt() : draw(4);
        int c = draw(2) == 0 ? anyInt() : draw(12);
        String args = "(" + a + ", " + b + ", " + c + ")";
        switch (draw(12)) {
            case 0: addClue(draw(7), a, b, c, b); break;
            case 1: compare("withdraw" + args, () -> grid.withdraw(a), () -> plain.withdraw(a)); break;
            case 2: compare("cross" + args, () -> grid.cross(a, b), () -> plain.cross(a, b)); break;
            case 3: compare("rubOut" + args, () -> grid.rubOut(a, b), () -> plain.rubOut(a, b)); break;
            case 4: compare("append" + args, () -> grid.append(a), () -> plain.append(a)); break;
            case 5: compare("itemOf" + args, () -> grid.itemOf(a, b), () -> plain.itemOf(a, b)); break;
            case 6: compare("placeIn" + args, () -> grid.placeIn(a, c), () -> plain.placeIn(a, c)); break;
            case 7: compare("left" + args, () -> grid.left(a), () -> plain.left(a)); break;
            case 8: compare("fixedAt" + args, () -> grid.fixedAt(a), () -> plain.fixedAt(a)); break;
            case 9: compare("trulyLeft" + args, () -> grid.trulyLeft(a), () -> plain.trulyLeft(a)); break;
            case 10: compare("isCrossed" + args, Check.flag(() -> grid.isCrossed(a, b)), Check.flag(() -> plain.isCrossed(a, b))); break;
            default: compare("isSpare" + args, Check.flag(() -> grid.isSpare(a)), Check.flag(() -> plain.isSpare(a)));
        }
    }
}
