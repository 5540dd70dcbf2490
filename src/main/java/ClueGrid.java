/**
 * A logic grid of four places and twelve items of three kinds, with clues that
 * rule places out. DOC.md beside the project says what each call promises.
 */
public final class ClueGrid {
    public static final int NONE = -1;

    private static final int ITEMS = 12;
    private static final int PLACES = 4;
    private static final int ALL_PLACES = 15;
    private static final int PARTS = 3;
    private static final int MOST_CLUES = 12;
    private static final int MOST_SAVED = 6;
    private static final int MOST_CHARACTERS = 60;
    private static final int LEAST_CODE = 33;
    private static final int GREATEST_CODE = 126;

    private static final int SAME = 0;
    private static final int APART = 1;
    private static final int LEFT_OF = 2;
    private static final int NEXT_TO = 3;
    private static final int AT = 4;
    private static final int NOT_AT = 5;
    private static final int EITHER = 6;

    private static final int BY_ANOTHER_ITEM = 12;
    private static final int BY_NEED_ELSEWHERE = 13;

    private static final long HASH_START = 4217;
    private static final int DOUBLE_BIAS = 1023;
    private static final int DOUBLE_WIDTH = 52;
    private static final int FLOAT_BIAS = 127;
    private static final int FLOAT_WIDTH = 23;

    private final State now = new State();
    private final State snapshot = new State();
    private final State[] saved = new State[MOST_SAVED];
    private final Text text = new Text();
    private final Propagation propagation = new Propagation();
    private final Survey survey = new Survey();
    private int savedCount;
    private boolean hasSnapshot;

    public ClueGrid() {
        for (int i = 0; i < MOST_SAVED; i++) {
            saved[i] = new State();
        }
    }

    // ---- clues

    public int same(int one, int other)
            throws IndexOutOfBoundsException, IllegalArgumentException, IllegalStateException {
        return addPair(SAME, one, other);
    }

    public int apart(int one, int other)
            throws IndexOutOfBoundsException, IllegalArgumentException, IllegalStateException {
        return addPair(APART, one, other);
    }

    public int leftOf(int one, int other)
            throws IndexOutOfBoundsException, IllegalArgumentException, IllegalStateException {
        return addPair(LEFT_OF, one, other);
    }

    public int nextTo(int one, int other)
            throws IndexOutOfBoundsException, IllegalArgumentException, IllegalStateException {
        return addPair(NEXT_TO, one, other);
    }

    public int at(int item, int place) throws IndexOutOfBoundsException, IllegalStateException {
        return addPlaced(AT, item, place);
    }

    public int notAt(int item, int place) throws IndexOutOfBoundsException, IllegalStateException {
        return addPlaced(NOT_AT, item, place);
    }

    public int either(int item, int one, int other)
            throws IndexOutOfBoundsException, IllegalArgumentException, IllegalStateException {
        requireItem(item);
        requireItem(one);
        requireItem(other);
        requireUnlike(item, one);
        requireUnlike(item, other);
        requireUnlike(one, other);
        return addClue(Clue.of(EITHER, item, one, other, Clue.NOTHING));
    }

    public int withdraw(int clue) throws IndexOutOfBoundsException {
        requireClue(clue);
        save();
        now.dropClue(clue);
        return now.clueCount;
    }

    // ---- crosses

    public int cross(int item, int place) throws IndexOutOfBoundsException, IllegalStateException {
        requireItem(item);
        requirePlace(place);
        if (Grid.has(now.crossed, item, place)) {
            throw new IllegalStateException("crossed out already");
        }
        save();
        now.makeCrosses(Grid.spot(item, place));
        return PLACES - now.crossesOf(item);
    }

    public int rubOut(int item, int place) throws IndexOutOfBoundsException, IllegalStateException {
        requireItem(item);
        requirePlace(place);
        if (!Grid.has(now.crossed, item, place)) {
            throw new IllegalStateException("not crossed out");
        }
        save();
        now.rubCrosses(Grid.spot(item, place));
        return PLACES - now.crossesOf(item);
    }

    public int rubAllOut() {
        save();
        return now.rubCrosses(Grid.FULL);
    }

    public int settle() throws IllegalStateException {
        propagation.run(now);
        if (Grid.isContradictory(propagation.end)) {
            throw new IllegalStateException("a contradiction");
        }
        save();
        return now.makeCrosses(Grid.FULL & ~propagation.end);
    }

    // ---- texts, the snapshot, undo

    public int append(int code) throws IllegalArgumentException, IllegalStateException {
        if (code < LEAST_CODE || code > GREATEST_CODE) {
            throw new IllegalArgumentException("no such character");
        }
        if (text.length >= MOST_CHARACTERS) {
            throw new IllegalStateException("the buffer is full");
        }
        text.code[text.length] = code;
        text.length++;
        return text.length;
    }

    public int clearBuffer() {
        int before = text.length;
        text.length = 0;
        return before;
    }

    public int firstError() {
        return text.errorIndex();
    }

    public int take() throws IllegalArgumentException {
        if (!text.isComplete()) {
            throw new IllegalArgumentException("not a complete text");
        }
        save();
        int done = 0;
        for (int i = 0; i < text.length; i++) {
            if (text.beginsPart(i)) {
                if (!doPart(i)) {
                    break;
                }
                done++;
            }
        }
        text.length = 0;
        return done;
    }

    public int keep() {
        snapshot.copyFrom(now);
        hasSnapshot = true;
        return now.clueCount;
    }

    public int goBack() throws IllegalStateException {
        if (!hasSnapshot) {
            throw new IllegalStateException("no snapshot");
        }
        save();
        now.copyFrom(snapshot);
        return now.clueCount;
    }

    public int undo() throws IllegalStateException {
        if (savedCount <= 0) {
            throw new IllegalStateException("no saved state");
        }
        savedCount--;
        now.copyFrom(saved[savedCount]);
        survey.isFresh = false;
        return savedCount;
    }

    // ---- looks at clues and crosses; nothing is changed

    public int clues() {
        return now.clueCount;
    }

    public int sortOf(int clue) throws IndexOutOfBoundsException {
        requireClue(clue);
        return Clue.sort(now.clue[clue]);
    }

    public int itemOf(int clue, int part) throws IndexOutOfBoundsException {
        requireClue(clue);
        if (part < 0 || part >= PARTS) {
            throw new IndexOutOfBoundsException("no such part");
        }
        return orNone(Clue.item(now.clue[clue], part));
    }

    public int placeOf(int clue) throws IndexOutOfBoundsException {
        requireClue(clue);
        return orNone(Clue.place(now.clue[clue]));
    }

    public boolean isCrossed(int item, int place) throws IndexOutOfBoundsException {
        requireItem(item);
        requirePlace(place);
        return Grid.has(now.crossed, item, place);
    }

    public int crosses() {
        int count = 0;
        for (int item = 0; item < ITEMS; item++) {
            count += now.crossesOf(item);
        }
        return count;
    }

    public int crossesByAccount() {
        return now.madeCount - now.rubbedCount;
    }

    public int made() {
        return now.madeCount;
    }

    // ---- propagation; nothing is changed

    public int left(int item) throws IndexOutOfBoundsException {
        requireItem(item);
        return Grid.placesOf(leftAtEnd(), item);
    }

    public int leftByTurns(int item) throws IndexOutOfBoundsException {
        requireItem(item);
        return Grid.placesOf(leftAtEndByTurns(), item);
    }

    public int rounds() {
        propagation.run(now);
        return propagation.roundCount;
    }

    public boolean isContradiction() {
        propagation.run(now);
        return Grid.isContradictory(propagation.end);
    }

    public int fixedAt(int item) throws IndexOutOfBoundsException {
        requireItem(item);
        return Grid.onlyPlaceOf(leftAtEnd(), item);
    }

    public int fixedItems() {
        return Grid.countWithOne(leftAtEnd());
    }

    public int hint() {
        return Grid.leastBit(Propagation.ruledOut(now, Propagation.leftAtFirst(now)));
    }

    public int hintBy() {
        long left = Propagation.leftAtFirst(now);
        int bit = Grid.leastBit(Propagation.ruledOut(now, left));
        if (bit == NONE) {
            return NONE;
        }
        for (int i = 0; i < now.clueCount; i++) {
            if (Grid.hasBit(Clue.ruledOut(now.clue[i], left), bit)) {
                return i;
            }
        }
        return Grid.hasBit(Grid.takenByAnother(left), bit) ? BY_ANOTHER_ITEM : BY_NEED_ELSEWHERE;
    }

    // ---- solutions; nothing is changed

    public int solutions() {
        survey.lookAt(now);
        return survey.found;
    }

    public int solutionsBySearch() {
        return countBySearch(now, Propagation.leftAtFirst(now), 0);
    }

    public int placeIn(int rank, int item) throws IndexOutOfBoundsException {
        if (rank < 0) {
            throw new IndexOutOfBoundsException("no such rank");
        }
        requireItem(item);
        return Grid.onlyPlaceOf(solutionAt(rank), item);
    }

    public int trulyLeft(int item) throws IndexOutOfBoundsException {
        requireItem(item);
        survey.lookAt(now);
        return Grid.placesOf(survey.used, item);
    }

    public boolean isSpare(int clue) throws IndexOutOfBoundsException {
        requireClue(clue);
        survey.lookAt(now);
        return survey.barredAlone[clue] == 0;
    }

    public int culprit() {
        survey.lookAt(now);
        if (survey.found > 0) {
            return NONE;
        }
        for (int i = 0; i < now.clueCount; i++) {
            if (survey.barredAlone[i] > 0) {
                return i;
            }
        }
        return NONE;
    }

    public int barredBy(int clue) throws IndexOutOfBoundsException {
        requireClue(clue);
        int count = 0;
        for (int i = 0; i < Survey.ARRANGEMENTS; i++) {
            if (!Clue.holds(now.clue[clue], Survey.arrangement(i))) {
                count++;
            }
        }
        return count;
    }

    public boolean isPlain() {
        survey.lookAt(now);
        return leftAtEnd() == survey.used;
    }

    public double fixedShare() {
        return shareOf(leftAtEnd());
    }

    public float meanLeft() {
        return meanOf(leftAtEnd());
    }

    public long digest() {
        survey.lookAt(now);
        long end = leftAtEnd();
        long endByTurns = leftAtEndByTurns();
        long first = solutionAt(0);
        long second = solutionAt(1);
        long hash = mix(HASH_START, now.clueCount);
        for (int i = 0; i < now.clueCount; i++) {
            hash = mixClue(hash, i);
        }
        for (int item = 0; item < ITEMS; item++) {
            hash = mixCrosses(hash, item);
            hash = mix(hash, Grid.placesOf(end, item));
            hash = mix(hash, Grid.placesOf(endByTurns, item));
            hash = mix(hash, Grid.onlyPlaceOf(end, item));
            hash = mix(hash, Grid.placesOf(survey.used, item));
            hash = mix(hash, Grid.onlyPlaceOf(first, item));
            hash = mix(hash, Grid.onlyPlaceOf(second, item));
        }
        hash = mix(hash, crosses());
        hash = mix(hash, crossesByAccount());
        hash = mix(hash, made());
        hash = mix(hash, rounds());
        hash = mixFlag(hash, isContradiction());
        hash = mix(hash, Grid.countWithOne(end));
        hash = mix(hash, hint());
        hash = mix(hash, hintBy());
        hash = mix(hash, solutions());
        hash = mix(hash, solutionsBySearch());
        hash = mix(hash, culprit());
        hash = mixFlag(hash, end == survey.used);
        hash = mix(hash, savedCount);
        hash = mix(hash, bitsOf(shareOf(end), DOUBLE_BIAS, DOUBLE_WIDTH));
        hash = mix(hash, bitsOf(meanOf(end), FLOAT_BIAS, FLOAT_WIDTH));
        hash = mixFlag(hash, hasSnapshot);
        return mixBuffer(hash);
    }

    // ---- what the calls of the face share

    private static void requireItem(int item) {
        if (item < 0 || item >= ITEMS) {
            throw new IndexOutOfBoundsException("no such item");
        }
    }

    private static void requirePlace(int place) {
        if (place < 0 || place >= PLACES) {
            throw new IndexOutOfBoundsException("no such place");
        }
    }

    private static void requireUnlike(int one, int other) {
        if (one == other) {
            throw new IllegalArgumentException("the same item twice");
        }
    }

    private void requireClue(int clue) {
        if (clue < 0 || clue >= now.clueCount) {
            throw new IndexOutOfBoundsException("no such clue");
        }
    }

    private int addPair(int sort, int one, int other) {
        requireItem(one);
        requireItem(other);
        requireUnlike(one, other);
        return addClue(Clue.of(sort, one, other, Clue.NOTHING, Clue.NOTHING));
    }

    private int addPlaced(int sort, int item, int place) {
        requireItem(item);
        requirePlace(place);
        return addClue(Clue.of(sort, item, Clue.NOTHING, Clue.NOTHING, place));
    }

    private int addClue(int clue) {
        if (now.clueCount >= MOST_CLUES) {
            throw new IllegalStateException("there are 12 clues");
        }
        save();
        now.addClue(clue);
        return now.clueCount - 1;
    }

    /** Every undoable call comes through here ahead of its first change. */
    private void save() {
        if (savedCount >= MOST_SAVED) {
            dropOldest();
        }
        saved[savedCount].copyFrom(now);
        savedCount++;
        survey.isFresh = false;
    }

    private void dropOldest() {
        State oldest = saved[0];
        for (int i = 1; i < MOST_SAVED; i++) {
            saved[i - 1] = saved[i];
        }
        saved[MOST_SAVED - 1] = oldest;
        savedCount = MOST_SAVED - 1;
    }

    /** Does the part of the text that begins there, unless its method would throw. */
    private boolean doPart(int start) {
        if (text.isCrossAt(start)) {
            return now.makeCrosses(text.crossAt(start)) > 0;
        }
        if (now.clueCount >= MOST_CLUES) {
            return false;
        }
        now.addClue(text.clueAt(start));
        return true;
    }

    private static int orNone(int value) {
        return value == Clue.NOTHING ? NONE : value;
    }

    private long leftAtEnd() {
        propagation.run(now);
        return Grid.isContradictory(propagation.end) ? 0 : propagation.end;
    }

    private long leftAtEndByTurns() {
        long end = Propagation.byTurns(now, Propagation.leftAtFirst(now));
        return Grid.isContradictory(end) ? 0 : end;
    }

    private static double shareOf(long end) {
        return (double) Grid.countWithOne(end) / 12.0;
    }

    private static float meanOf(long end) {
        return (float) Long.bitCount(end) / 12.0f;
    }

    /** No place of any item, if there are not so many solutions. */
    private long solutionAt(int rank) {
        survey.lookAt(now);
        if (rank >= survey.found) {
            return 0;
        }
        int ahead = 0;
        for (int i = 0; i < Survey.ARRANGEMENTS; i++) {
            long arrangement = Survey.arrangement(i);
            if (now.allows(arrangement)) {
                if (ahead == rank) {
                    return arrangement;
                }
                ahead++;
            }
        }
        return 0;
    }

    /** Each try fixes one item more, so no try lies deeper than there are items. */
    private static int countBySearch(State state, long left, int depth) {
        long end = Propagation.byTurns(state, left);
        if (depth > ITEMS || Grid.isContradictory(end)) {
            return 0;
        }
        int item = Grid.firstWithMore(end);
        if (item == NONE) {
            return 1;
        }
        int count = 0;
        for (int place = 0; place < PLACES; place++) {
            if (Grid.has(end, item, place)) {
                count += countBySearch(state, Grid.withOnly(end, item, place), depth + 1);
            }
        }
        return count;
    }

    // ---- the hash

    private static long mix(long hash, long value) {
        return 31 * hash + value;
    }

    private static long mixFlag(long hash, boolean value) {
        return mix(hash, value ? 1 : 0);
    }

    private long mixClue(long hash, int clue) {
        long mixed = mix(hash, sortOf(clue));
        for (int part = 0; part < PARTS; part++) {
            mixed = mix(mixed, itemOf(clue, part));
        }
        mixed = mix(mixed, placeOf(clue));
        mixed = mixFlag(mixed, isSpare(clue));
        return mix(mixed, barredBy(clue));
    }

    private long mixCrosses(long hash, int item) {
        long mixed = hash;
        for (int place = 0; place < PLACES; place++) {
            mixed = mixFlag(mixed, isCrossed(item, place));
        }
        return mixed;
    }

    private long mixBuffer(long hash) {
        long mixed = mix(hash, text.length);
        for (int i = 0; i < text.length; i++) {
            mixed = mix(mixed, text.code[i]);
        }
        return mixed;
    }

    /**
     * The bits of a share, worked out by hand as the library's own way lies
     * outside LANGUAGE.md: 0, or a number from a sixteenth to some sixteen. All
     * steps are exact, as they double, halve, or take 1 from 1 to 2.
     */
    private static long bitsOf(double share, int bias, int width) {
        if (share <= 0) {
            return 0;
        }
        double scaled = share;
        long exponent = bias;
        for (int i = 0; i < 4 && scaled < 1; i++) {
            scaled = scaled * 2;
            exponent--;
        }
        for (int i = 0; i < 4 && scaled >= 2; i++) {
            scaled = scaled / 2;
            exponent++;
        }
        return (exponent << width) + (long) ((scaled - 1) * (double) (1L << width));
    }

    /**
     * Places of all items as one number: the bit 4 * item + place tells of this
     * place of this item, so four bits are an item's mask, and sixteen a kind.
     */
    private static final class Grid {
        static final long FULL = 0xFFFFFFFFFFFFL;
        static final int BITS = 48;
        private static final long EACH_ITEM = 0x111111111111L;

        static long spot(int item, int place) {
            return 1L << (PLACES * item + place);
        }

        static boolean has(long grid, int item, int place) {
            return (grid & spot(item, place)) != 0;
        }

        static boolean hasBit(long grid, int bit) {
            return (grid >> bit & 1) != 0;
        }

        static int placesOf(long grid, int item) {
            return (int) (grid >> (PLACES * item)) & ALL_PLACES;
        }

        static long withOnly(long grid, int item, int place) {
            return grid & ~((long) ALL_PLACES << (PLACES * item)) | spot(item, place);
        }

        static int onlyPlaceOf(long grid, int item) {
            int places = placesOf(grid, item);
            for (int place = 0; place < PLACES; place++) {
                if (places == 1 << place) {
                    return place;
                }
            }
            return NONE;
        }

        static int countWithOne(long grid) {
            return Long.bitCount(itemsWithOne(grid) & EACH_ITEM);
        }

        static int leastBit(long grid) {
            for (int bit = 0; bit < BITS; bit++) {
                if (hasBit(grid, bit)) {
                    return bit;
                }
            }
            return NONE;
        }

        static int firstWithMore(long grid) {
            int bit = leastBit(itemsWithMore(grid));
            return bit == NONE ? NONE : bit / PLACES;
        }

        /** All four bits of each item that has a place at all. */
        static long itemsWithSome(long grid) {
            return ((grid | grid >> 1 | grid >> 2 | grid >> 3) & EACH_ITEM) * ALL_PLACES;
        }

        /** All four bits of each item that has two places or more. */
        static long itemsWithMore(long grid) {
            long low = grid & grid >> 1 | grid >> 2 & grid >> 3;
            long across = (grid | grid >> 1) & (grid >> 2 | grid >> 3);
            return ((low | across) & EACH_ITEM) * ALL_PLACES;
        }

        static long itemsWithOne(long grid) {
            return itemsWithSome(grid) & ~itemsWithMore(grid);
        }

        /** For each item what the three others of its kind have, each kind turned in itself. */
        static long ofOthers(long grid) {
            long byOne = grid << 4 & 0xFFF0FFF0FFF0L | grid >> 12 & 0x000F000F000FL;
            long byTwo = grid << 8 & 0xFF00FF00FF00L | grid >> 8 & 0x00FF00FF00FFL;
            long byThree = grid << 12 & 0xF000F000F000L | grid >> 4 & 0x0FFF0FFF0FFFL;
            return byOne | byTwo | byThree;
        }

        /** Ruled out as another item of the kind has this place left, and no other one. */
        static long takenByAnother(long left) {
            return left & ofOthers(left & itemsWithOne(left));
        }

        /**
         * Ruled out as the item is the only one of its kind with some other place.
         * One with two such places loses all: each of the two rules out the other.
         */
        static long neededElsewhere(long left) {
            long alone = left & ~ofOthers(left);
            return left & (itemsWithOne(alone) & ~alone | itemsWithMore(alone));
        }

        static boolean isContradictory(long left) {
            return itemsWithSome(left) != FULL || (left | ofOthers(left)) != FULL;
        }
    }

    /**
     * A clue as one number, so that clues are copied as numbers are: four bits
     * each for the sort, the items x, y and z, and the place.
     */
    private static final class Clue {
        /** For a part that the clue has not; as an item it has no place in any grid. */
        static final int NOTHING = 15;

        static int of(int sort, int x, int y, int z, int place) {
            return sort | x << 4 | y << 8 | z << 12 | place << 16;
        }

        static int sort(int clue) {
            return clue & 15;
        }

        static int item(int clue, int part) {
            return clue >> (4 + 4 * part) & 15;
        }

        static int place(int clue) {
            return clue >> 16 & 15;
        }

        static boolean holds(int clue, long arrangement) {
            int x = Grid.placesOf(arrangement, item(clue, 0));
            int y = Grid.placesOf(arrangement, item(clue, 1));
            switch (sort(clue)) {
                case SAME:
                    return x == y;
                case APART:
                    return x != y;
                case LEFT_OF:
                    return x < y;
                case NEXT_TO:
                    return x == y << 1 || y == x << 1;
                case AT:
                    return x == 1 << place(clue);
                case NOT_AT:
                    return x != 1 << place(clue);
                default:
                    return x == y || x == Grid.placesOf(arrangement, item(clue, 2));
            }
        }

        static long ruledOut(int clue, long left) {
            long out = 0;
            for (int part = 0; part < PARTS; part++) {
                int item = item(clue, part);
                if (item != NOTHING) {
                    int lost = Grid.placesOf(left, item) & ~choices(clue, part, left);
                    out |= (long) lost << (PLACES * item);
                }
            }
            return out;
        }

        /** The places with which the part leaves the others a choice. */
        private static int choices(int clue, int part, long left) {
            int x = Grid.placesOf(left, item(clue, 0));
            int y = Grid.placesOf(left, item(clue, 1));
            int other = part == 0 ? y : x;
            switch (sort(clue)) {
                case SAME:
                    return other;
                case APART:
                    return elsewhere(other);
                case LEFT_OF:
                    return part == 0 ? y >> 1 | y >> 2 | y >> 3 : (x << 1 | x << 2 | x << 3) & ALL_PLACES;
                case NEXT_TO:
                    return (other << 1 | other >> 1) & ALL_PLACES;
                case AT:
                    return 1 << place(clue);
                case NOT_AT:
                    return ALL_PLACES & ~(1 << place(clue));
                default:
                    return eitherChoices(part, x, y, Grid.placesOf(left, item(clue, 2)));
            }
        }

        private static int elsewhere(int places) {
            if ((places & (places - 1)) != 0) {
                return ALL_PLACES;
            }
            return places == 0 ? 0 : ALL_PLACES & ~places;
        }

        /** An item without a place leaves no choice at all, also where the clue looks at the other one. */
        private static int eitherChoices(int part, int x, int y, int z) {
            if (part == 0) {
                return y == 0 || z == 0 ? 0 : y | z;
            }
            int third = part == 1 ? z : y;
            if (third == 0) {
                return 0;
            }
            return (x & third) != 0 ? ALL_PLACES : x;
        }
    }

    /** All that undo() restores. */
    private static final class State {
        final int[] clue = new int[MOST_CLUES];
        int clueCount;
        long crossed;
        int madeCount;
        int rubbedCount;

        void copyFrom(State other) {
            System.arraycopy(other.clue, 0, clue, 0, MOST_CLUES);
            clueCount = other.clueCount;
            crossed = other.crossed;
            madeCount = other.madeCount;
            rubbedCount = other.rubbedCount;
        }

        void addClue(int added) {
            clue[clueCount] = added;
            clueCount++;
        }

        void dropClue(int dropped) {
            for (int i = dropped + 1; i < clueCount; i++) {
                clue[i - 1] = clue[i];
            }
            clueCount--;
        }

        int crossesOf(int item) {
            return Integer.bitCount(Grid.placesOf(crossed, item));
        }

        int makeCrosses(long spots) {
            int count = Long.bitCount(spots & ~crossed);
            crossed |= spots;
            madeCount += count;
            return count;
        }

        int rubCrosses(long spots) {
            int count = Long.bitCount(spots & crossed);
            crossed &= ~spots;
            rubbedCount += count;
            return count;
        }

        boolean allows(long arrangement) {
            if ((arrangement & crossed) != 0) {
                return false;
            }
            for (int i = 0; i < clueCount; i++) {
                if (!Clue.holds(clue[i], arrangement)) {
                    return false;
                }
            }
            return true;
        }
    }

    private static final class Propagation {
        /** Each round but the last rules out one of the 48 places at least. */
        private static final int MOST_ROUNDS = Grid.BITS + 1;

        long end;
        int roundCount;

        static long leftAtFirst(State state) {
            return Grid.FULL & ~state.crossed;
        }

        static long ruledOut(State state, long left) {
            long out = Grid.takenByAnother(left) | Grid.neededElsewhere(left);
            for (int i = 0; i < state.clueCount; i++) {
                out |= Clue.ruledOut(state.clue[i], left);
            }
            return out;
        }

        void run(State state) {
            end = leftAtFirst(state);
            roundCount = 0;
            for (int i = 0; i < MOST_ROUNDS; i++) {
                long out = ruledOut(state, end);
                if (out == 0) {
                    return;
                }
                end &= ~out;
                roundCount++;
            }
        }

        static long byTurns(State state, long first) {
            long left = first;
            for (int i = 0; i < MOST_ROUNDS; i++) {
                long before = left;
                for (int k = 0; k < state.clueCount; k++) {
                    left &= ~Clue.ruledOut(state.clue[k], left);
                }
                left &= ~Grid.takenByAnother(left);
                left &= ~Grid.neededElsewhere(left);
                if (left == before) {
                    return left;
                }
            }
            return left;
        }
    }

    /** What is found by trying all arrangements. */
    private static final class Survey {
        static final int ARRANGEMENTS = 13824;
        private static final int ORDERS = 24;

        /** The orders of a kind, the one with the lesser places of its first items ahead. */
        private static final long[] ORDER = {
            0x8421, 0x4821, 0x8241, 0x2841, 0x4281, 0x2481,
            0x8412, 0x4812, 0x8142, 0x1842, 0x4182, 0x1482,
            0x8214, 0x2814, 0x8124, 0x1824, 0x2184, 0x1284,
            0x4218, 0x2418, 0x4128, 0x1428, 0x2148, 0x1248,
        };

        /** For each clue the arrangements that would be solutions but for this clue alone. */
        final int[] barredAlone = new int[MOST_CLUES];
        int found;
        /** The places that an item has in some solution. */
        long used;
        /** Trying all is dear, so it is done anew only after a change. */
        boolean isFresh;

        static long arrangement(int index) {
            long first = ORDER[index / (ORDERS * ORDERS) % ORDERS];
            long second = ORDER[index / ORDERS % ORDERS];
            long third = ORDER[index % ORDERS];
            return first | second << 16 | third << 32;
        }

        void lookAt(State state) {
            if (isFresh) {
                return;
            }
            isFresh = true;
            found = 0;
            used = 0;
            for (int i = 0; i < MOST_CLUES; i++) {
                barredAlone[i] = 0;
            }
            for (int i = 0; i < ARRANGEMENTS; i++) {
                long arrangement = arrangement(i);
                if ((arrangement & state.crossed) == 0) {
                    count(state, arrangement);
                }
            }
        }

        private void count(State state, long arrangement) {
            int broken = NONE;
            for (int i = 0; i < state.clueCount; i++) {
                if (!Clue.holds(state.clue[i], arrangement)) {
                    if (broken != NONE) {
                        return;
                    }
                    broken = i;
                }
            }
            if (broken != NONE) {
                barredAlone[broken]++;
                return;
            }
            found++;
            used |= arrangement;
        }
    }

    /** The buffer and how it is read. */
    private static final class Text {
        /** The sign of a sort stands at the sort's number. */
        private static final String SIGNS = "=#<~@!|";
        private static final char CROSS = 'x';
        private static final char BETWEEN = ';';

        final int[] code = new int[MOST_CHARACTERS];
        int length;

        int errorIndex() {
            int start = 0;
            for (int i = 0; i < length; i++) {
                if (!fits(start, i)) {
                    return i;
                }
                if (code[i] == BETWEEN) {
                    start = i + 1;
                }
            }
            return length;
        }

        boolean isComplete() {
            int start = 0;
            for (int i = 0; i < length; i++) {
                if (code[i] == BETWEEN) {
                    start = i + 1;
                }
            }
            return length - start == partLength(start) && errorIndex() == length;
        }

        boolean beginsPart(int index) {
            return index <= 0 || code[index - 1] == BETWEEN;
        }

        private int partLength(int start) {
            return start + 1 < length && code[start + 1] == '|' ? 4 : 3;
        }

        boolean isCrossAt(int start) {
            return code[start] == CROSS;
        }

        long crossAt(int start) {
            return Grid.spot(code[start + 1] - 'A', code[start + 2] - '0');
        }

        int clueAt(int start) {
            int sort = signAt(start + 1);
            int x = code[start] - 'A';
            if (sort == AT || sort == NOT_AT) {
                return Clue.of(sort, x, Clue.NOTHING, Clue.NOTHING, code[start + 2] - '0');
            }
            int z = sort == EITHER ? code[start + 3] - 'A' : Clue.NOTHING;
            return Clue.of(sort, x, code[start + 2] - 'A', z, Clue.NOTHING);
        }

        /** Whether the character may stand there in the part that begins at start, all ahead of it being right. */
        private boolean fits(int start, int index) {
            int character = code[index];
            int step = index - start;
            if (step == 0) {
                return isItem(character) || character == CROSS;
            }
            if (step == 1) {
                return isCrossAt(start) ? isItem(character) : signAt(index) != NONE;
            }
            if (step == partLength(start)) {
                return character == BETWEEN;
            }
            if (endsWithPlace(start)) {
                return character >= '0' && character < '0' + PLACES;
            }
            return isItem(character) && character != code[start] && (step == 2 || character != code[start + 2]);
        }

        private boolean endsWithPlace(int start) {
            int sign = signAt(start + 1);
            return isCrossAt(start) || sign == AT || sign == NOT_AT;
        }

        private int signAt(int index) {
            return SIGNS.indexOf((char) code[index]);
        }

        private static boolean isItem(int character) {
            return character >= 'A' && character < 'A' + ITEMS;
        }
    }
}
