/**
 * Grids of which a few entries are told and that are completed so that each row
 * is a multiple of each other one, modulo a prime number.
 */
public final class OneRankGrid {
    public static final int NO_SUCH = -1, BAD_VALUE = -2, BAD_TEXT = -3, TOO_MANY = -4, NOT_POSSIBLE = -5, NONE = -6;

    /** Most rows and most columns; also the step from one row's places to the next one's. */
    private static final int SIDE = 6;
    private static final int LEAST_SIDE = 2;
    private static final int HISTORY_LIMIT = 6;
    private static final int SLOTS = 2;
    private static final int PAD_LIMIT = 50;
    /** Characters that a long has room for. */
    private static final int WORD_LIMIT = 8;

    private final Grid grid;
    /** What-ifs are tried on this one, so that they never touch the grid itself. */
    private final Grid trial;
    private final Parts parts;
    private final Rings rings;
    private final Minors minors;
    private final Pad pad;
    private final History history;
    private final Slot[] slots;

    public OneRankGrid() {
        grid = new Grid();
        trial = new Grid();
        parts = new Parts();
        rings = new Rings();
        minors = new Minors();
        pad = new Pad();
        history = new History();
        slots = new Slot[SLOTS];
        for (int i = 0; i < slots.length; i++) {
            slots[i] = new Slot();
        }
    }

    // ---- changes

    public int begin(int rows, int columns, int modulus) {
        if (isOutside(rows, LEAST_SIDE, SIDE) || isOutside(columns, LEAST_SIDE, SIDE) || !isModulus(modulus)) {
            return BAD_VALUE;
        }
        int told = grid.toldCount();
        history.record(grid);
        grid.clear(rows, columns, modulus);
        return told;
    }

    public int tell(int row, int column, int number) {
        int error = errorOfTelling(row, column, number);
        if (error != 0) {
            return error;
        }
        int previous = grid.number(row, column);
        history.record(grid);
        grid.setNumber(row, column, number);
        return previous;
    }

    public int tellAll() {
        parts.find(grid);
        if (!parts.isConsistent()) {
            return NOT_POSSIBLE;
        }
        int before = grid.toldCount();
        history.record(grid);
        for (int row = 0; row < grid.rows(); row++) {
            for (int column = 0; column < grid.columns(); column++) {
                if (parts.areJoined(row, column)) {
                    grid.setNumber(row, column, parts.product(grid, row, column));
                }
            }
        }
        return grid.toldCount() - before;
    }

    public int read() {
        if (pad.scan() != NONE) {
            return BAD_TEXT;
        }
        if (pad.greatestNumber() >= grid.modulus()) {
            return BAD_VALUE;
        }
        history.record(grid);
        grid.clear(pad.rows(), pad.columns(), grid.modulus());
        for (int row = 0; row < grid.rows(); row++) {
            for (int column = 0; column < grid.columns(); column++) {
                grid.setNumber(row, column, pad.number(row, column));
            }
        }
        pad.empty();
        return grid.toldCount();
    }

    // ---- what there is

    public int entry(int row, int column, int what) {
        if (!grid.has(row, column)) {
            return NO_SUCH;
        }
        switch (what) {
            case 0:
                return grid.number(row, column);
            case 1:
                parts.find(grid);
                return parts.following(grid, row, column);
            case 2:
                trial.copyFrom(grid);
                trial.setNumber(row, column, 0);
                parts.find(trial);
                return parts.following(trial, row, column);
            case 3:
                return minors.countThrough(grid, row, column);
            default:
                return BAD_VALUE;
        }
    }

    public int part(int part, int what) {
        parts.find(grid);
        if (isOutside(part, 0, parts.size() - 1)) {
            return NO_SUCH;
        }
        switch (what) {
            case 0:
                return parts.rowsOf(part);
            case 1:
                return parts.columnsOf(part);
            case 2:
                return parts.toldIn(grid, part);
            default:
                return BAD_VALUE;
        }
    }

    public int count(int what) {
        switch (what) {
            case 0:
                return grid.rows();
            case 1:
                return grid.columns();
            case 2:
                return grid.modulus();
            case 3:
                return grid.toldCount();
            case 4:
            case 5:
            case 6:
                return countOfParts(what);
            case 7:
                return minors.countAll(grid, false);
            case 8:
                return minors.countAll(grid, true);
            case 9:
                return minors.leastRank(grid);
            case 10:
                return pad.length();
            case 11:
                return history.size();
            default:
                return BAD_VALUE;
        }
    }

    private int countOfParts(int what) {
        parts.find(grid);
        if (what == 4) {
            return parts.size();
        }
        if (what == 5) {
            return parts.isConsistent() ? 1 : 0;
        }
        return parts.joinedEntries();
    }

    // ---- cycles

    public int cycles(int length, int what) {
        if (isOutside(length, 2 * LEAST_SIDE, 2 * SIDE) || (length & 1) != 0 || isOutside(what, 0, 1)) {
            return BAD_VALUE;
        }
        rings.search(grid, length >> 1, what == 1);
        return what == 0 ? rings.all() : rings.wrongOnes();
    }

    public int wrong(int what) {
        if (isOutside(what, 0, 2)) {
            return BAD_VALUE;
        }
        int turns = shortestWrongTurns();
        if (turns == 0) {
            return NONE;
        }
        if (what == 0) {
            return 2 * turns;
        }
        return what == 1 ? rings.wrongRows() : rings.wrongColumns();
    }

    /** Leaves the shortest wrong cycles found in the rings; returns how many rows they have, 0 if none is wrong. */
    private int shortestWrongTurns() {
        parts.find(grid);
        if (parts.isConsistent()) {
            return 0;
        }
        for (int turns = LEAST_SIDE; turns <= SIDE; turns++) {
            rings.search(grid, turns, true);
            if (rings.wrongOnes() > 0) {
                return turns;
            }
        }
        return 0;
    }

    // ---- completions

    public long completions() {
        parts.find(grid);
        return countCompletions();
    }

    public int completed(long completion, int row, int column) {
        parts.find(grid);
        if (completion < 0 || completion >= countCompletions() || !grid.has(row, column)) {
            return NO_SUCH;
        }
        int rowFactor = factorOf(completion, parts.partOfRow(row));
        int columnFactor = factorOf(completion, parts.partOfColumn(column));
        int lifted = grid.product(parts.product(grid, row, column), rowFactor);
        return grid.quotient(lifted, columnFactor);
    }

    /** Of the parts that were found last. */
    private long countCompletions() {
        if (!parts.isConsistent()) {
            return 0;
        }
        long completions = 1;
        for (int part = 1; part < parts.size(); part++) {
            completions *= grid.modulus() - 1;
        }
        return completions;
    }

    private int factorOf(long completion, int part) {
        int base = grid.modulus() - 1;
        if (part <= 0 || base <= 0) {
            return 1;
        }
        long rest = completion;
        for (int i = 1; i < part; i++) {
            rest /= base;
        }
        return 1 + (int) (rest % base);
    }

    // ---- what if; nothing changes

    public int isWellIf(int row, int column, int number) {
        int error = errorOfTelling(row, column, number);
        if (error != 0) {
            return error;
        }
        trial.copyFrom(grid);
        trial.setNumber(row, column, number);
        parts.find(trial);
        return parts.isConsistent() ? 1 : 0;
    }

    public long spoilers() {
        parts.find(grid);
        if (parts.isConsistent()) {
            return NONE;
        }
        long set = 0;
        for (int row = 0; row < grid.rows(); row++) {
            for (int column = 0; column < grid.columns(); column++) {
                if (grid.number(row, column) != 0 && isWellIf(row, column, 0) == 1) {
                    set |= 1L << (SIDE * row + column);
                }
            }
        }
        return set;
    }

    public int bestEntry(int what) {
        if (isOutside(what, 0, 2)) {
            return BAD_VALUE;
        }
        parts.find(grid);
        int bestRow = 0;
        int bestColumn = 0;
        int most = 0;
        for (int row = 0; row < grid.rows(); row++) {
            for (int column = 0; column < grid.columns(); column++) {
                int gain = parts.gain(row, column);
                if (gain > most) {
                    bestRow = row;
                    bestColumn = column;
                    most = gain;
                }
            }
        }
        if (most == 0) {
            return NONE;
        }
        if (what == 0) {
            return bestRow;
        }
        return what == 1 ? bestColumn : most;
    }

    // ---- texts

    public int put(long characters) {
        int size = sizeOf(characters);
        if (size == 0) {
            return BAD_VALUE;
        }
        if (pad.length() + size > PAD_LIMIT) {
            return TOO_MANY;
        }
        for (int i = size - 1; i >= 0; i--) {
            pad.append((int) (characters >>> (8 * i)) & 255);
        }
        return pad.length();
    }

    public int wipe() {
        int length = pad.length();
        pad.empty();
        return length;
    }

    public int fault() {
        return pad.scan();
    }

    /** How many characters the number gives; 0 if it gives none, or something that put() does not take. */
    private static int sizeOf(long characters) {
        long rest = characters;
        int size = 0;
        for (int i = 0; i < WORD_LIMIT && rest != 0; i++) {
            if (isOutside((int) (rest & 255), 33, 126)) {
                return 0;
            }
            size++;
            rest >>>= 8;
        }
        return size;
    }

    // ---- undo, saving

    public int undo() {
        Grid latest = history.takeLatest();
        if (latest == null) {
            return NOT_POSSIBLE;
        }
        grid.copyFrom(latest);
        return history.size();
    }

    public int save(int slot) {
        Slot chosen = slotAt(slot);
        if (chosen == null) {
            return BAD_VALUE;
        }
        chosen.keep(grid);
        return grid.toldCount();
    }

    public int restore(int slot) {
        Slot chosen = slotAt(slot);
        if (chosen == null) {
            return BAD_VALUE;
        }
        if (!chosen.isFilled()) {
            return NOT_POSSIBLE;
        }
        history.record(grid);
        chosen.giveTo(grid);
        return grid.toldCount();
    }

    private Slot slotAt(int slot) {
        return slot >= 0 && slot < slots.length ? slots[slot] : null;
    }

    // ---- arguments

    /** The error that tell() names for these arguments, 0 if there is none. */
    private int errorOfTelling(int row, int column, int number) {
        if (!grid.has(row, column)) {
            return NO_SUCH;
        }
        return isOutside(number, 0, grid.modulus() - 1) ? BAD_VALUE : 0;
    }

    private static boolean isOutside(int number, int least, int greatest) {
        return number < least || number > greatest;
    }

    private static boolean isModulus(int number) {
        return number == 5 || number == 7 || number == 11 || number == 13;
    }

    private static boolean holds(int set, int member) {
        return (set >> member & 1) != 0;
    }

    // ---- the classes inside

    /** A row of numbers that looks at each index before it uses it: outside there is 0, and nothing can be put there. */
    private static final class Numbers {
        private final int[] numbers;

        Numbers(int length) {
            numbers = new int[Math.max(length, 0)];
        }

        int get(int index) {
            return index >= 0 && index < numbers.length ? numbers[index] : 0;
        }

        void set(int index, int number) {
            if (index >= 0 && index < numbers.length) {
                numbers[index] = number;
            }
        }

        void setEach(int number) {
            for (int i = 0; i < numbers.length; i++) {
                numbers[i] = number;
            }
        }

        void copyFrom(Numbers other) {
            for (int i = 0; i < numbers.length; i++) {
                numbers[i] = other.get(i);
            }
        }

        void swap(int one, int other) {
            int kept = get(one);
            set(one, get(other));
            set(other, kept);
        }
    }

    /** The entries that are told, by their places, with 0 for one that is not; and how to count modulo the modulus. */
    private static final class Grid {
        private final Numbers numbers = new Numbers(SIDE * SIDE);
        private int rows = 3;
        private int columns = 3;
        private int modulus = 7;

        int rows() {
            return rows;
        }

        int columns() {
            return columns;
        }

        int modulus() {
            return modulus;
        }

        void clear(int newRows, int newColumns, int newModulus) {
            rows = newRows;
            columns = newColumns;
            modulus = newModulus;
            numbers.setEach(0);
        }

        void copyFrom(Grid other) {
            rows = other.rows;
            columns = other.columns;
            modulus = other.modulus;
            numbers.copyFrom(other.numbers);
        }

        boolean has(int row, int column) {
            return row >= 0 && row < rows && column >= 0 && column < columns;
        }

        int number(int row, int column) {
            return has(row, column) ? numbers.get(SIDE * row + column) : 0;
        }

        void setNumber(int row, int column, int number) {
            if (has(row, column)) {
                numbers.set(SIDE * row + column, number);
            }
        }

        /** The columns in which the row has told entries, as a set. */
        int toldInRow(int row) {
            int set = 0;
            for (int column = 0; column < columns; column++) {
                if (number(row, column) != 0) {
                    set |= 1 << column;
                }
            }
            return set;
        }

        int toldCount() {
            int told = 0;
            for (int row = 0; row < rows; row++) {
                told += Integer.bitCount(toldInRow(row));
            }
            return told;
        }

        int product(int one, int other) {
            return modulus > 0 ? one * other % modulus : 0;
        }

        int remainder(int number) {
            return modulus > 0 ? number % modulus : 0;
        }

        /** The number that gives the dividend with the divisor; 0 if there is none. */
        int quotient(int dividend, int divisor) {
            for (int number = 0; number < modulus; number++) {
                if (product(number, divisor) == dividend) {
                    return number;
                }
            }
            return 0;
        }
    }

    /** The parts of a grid, and a number for each row and column by which the told entries are products. */
    private static final class Parts {
        private static final int UNKNOWN = -1;

        private final Numbers rowParts = new Numbers(SIDE);
        private final Numbers columnParts = new Numbers(SIDE);
        private final Numbers rowNumbers = new Numbers(SIDE);
        private final Numbers columnNumbers = new Numbers(SIDE);
        private int size;
        private boolean consistent;

        void find(Grid grid) {
            size = 0;
            rowParts.setEach(UNKNOWN);
            columnParts.setEach(UNKNOWN);
            for (int row = 0; row < grid.rows(); row++) {
                if (rowParts.get(row) == UNKNOWN) {
                    rowParts.set(row, size);
                    rowNumbers.set(row, 1);
                    size++;
                    spread(grid);
                }
            }
            // What is left has no row, so there is nothing that it could spread to.
            for (int column = 0; column < grid.columns(); column++) {
                if (columnParts.get(column) == UNKNOWN) {
                    columnParts.set(column, size);
                    columnNumbers.set(column, 1);
                    size++;
                }
            }
            consistent = allToldAreProducts(grid);
        }

        /** Takes into the newest part all that told entries join to it. */
        private void spread(Grid grid) {
            boolean grown = true;
            // Each round but the last one reaches at least one row or column more, so there are never more rounds.
            for (int round = 0; round <= 2 * SIDE && grown; round++) {
                grown = false;
                for (int row = 0; row < grid.rows(); row++) {
                    for (int column = 0; column < grid.columns(); column++) {
                        if (grid.number(row, column) != 0 && reachOver(grid, row, column)) {
                            grown = true;
                        }
                    }
                }
            }
        }

        /** Whether the told entry led from its row to its column, or back, for the first time. */
        private boolean reachOver(Grid grid, int row, int column) {
            int rowPart = rowParts.get(row);
            int columnPart = columnParts.get(column);
            int number = grid.number(row, column);
            if ((rowPart == UNKNOWN) == (columnPart == UNKNOWN)) {
                return false;
            }
            if (rowPart == UNKNOWN) {
                rowParts.set(row, columnPart);
                rowNumbers.set(row, grid.quotient(number, columnNumbers.get(column)));
            } else {
                columnParts.set(column, rowPart);
                columnNumbers.set(column, grid.quotient(number, rowNumbers.get(row)));
            }
            return true;
        }

        private boolean allToldAreProducts(Grid grid) {
            for (int row = 0; row < grid.rows(); row++) {
                for (int column = 0; column < grid.columns(); column++) {
                    int number = grid.number(row, column);
                    if (number != 0 && number != product(grid, row, column)) {
                        return false;
                    }
                }
            }
            return true;
        }

        int size() {
            return size;
        }

        /** Whether the grid that was looked at last is well. */
        boolean isConsistent() {
            return consistent;
        }

        int partOfRow(int row) {
            return rowParts.get(row);
        }

        int partOfColumn(int column) {
            return columnParts.get(column);
        }

        boolean areJoined(int row, int column) {
            return rowParts.get(row) == columnParts.get(column);
        }

        int product(Grid grid, int row, int column) {
            return grid.product(rowNumbers.get(row), columnNumbers.get(column));
        }

        int following(Grid grid, int row, int column) {
            return consistent && areJoined(row, column) ? product(grid, row, column) : NONE;
        }

        int rowsOf(int part) {
            return membersOf(rowParts, part);
        }

        int columnsOf(int part) {
            return membersOf(columnParts, part);
        }

        private static int membersOf(Numbers partNumbers, int part) {
            int set = 0;
            for (int i = 0; i < SIDE; i++) {
                if (partNumbers.get(i) == part) {
                    set |= 1 << i;
                }
            }
            return set;
        }

        int toldIn(Grid grid, int part) {
            int told = 0;
            for (int row = 0; row < grid.rows(); row++) {
                if (rowParts.get(row) == part) {
                    told += Integer.bitCount(grid.toldInRow(row));
                }
            }
            return told;
        }

        /** How many entries have their row and column in the same part. */
        int joinedEntries() {
            int entries = 0;
            for (int part = 0; part < size; part++) {
                entries += Integer.bitCount(rowsOf(part)) * Integer.bitCount(columnsOf(part));
            }
            return entries;
        }

        /** How many entries more would have their row and column in the same part if this one was told. */
        int gain(int row, int column) {
            if (areJoined(row, column)) {
                return 0;
            }
            int one = rowParts.get(row);
            int other = columnParts.get(column);
            return Integer.bitCount(rowsOf(one)) * Integer.bitCount(columnsOf(other))
                    + Integer.bitCount(rowsOf(other)) * Integer.bitCount(columnsOf(one));
        }
    }

    /**
     * Counts the cycles of one length. It goes through the orders in which a cycle can have its rows,
     * from the lowest one on, and keeps for each set of columns in how many ways told entries lead along
     * the rows so far over just these columns. That takes far fewer steps than to walk along each cycle.
     */
    private static final class Rings {
        private static final int COLUMN_SETS = 1 << SIDE;
        /** Numbers for each set, more than the greatest modulus less 1. */
        private static final int RATIOS = 13;

        private final Grid grid = new Grid();
        private final Numbers toldInRow = new Numbers(SIDE);
        /** The ways apart by their ratio: the product of the entries that lead to a column by that of those behind. */
        private final Numbers ways = new Numbers(COLUMN_SETS * RATIOS);
        /** For each column that of the step that is just made. */
        private final Numbers ratios = new Numbers(SIDE);
        private int turns;
        private int home;
        /** The greatest ratio that is told apart; 1 if none are. */
        private int greatestRatio;
        private int all;
        private int wrongOnes;
        private int wrongRows;
        private int wrongColumns;

        /** Looks for the cycles with so many rows; without their ratios it is quicker, but none is found wrong. */
        void search(Grid source, int rowsOfRing, boolean withRatios) {
            grid.copyFrom(source);
            turns = rowsOfRing;
            greatestRatio = withRatios ? grid.modulus() - 1 : 1;
            all = 0;
            wrongOnes = 0;
            wrongRows = 0;
            wrongColumns = 0;
            // One way, of the ratio 1, leads over no columns.
            ways.set(1, 1);
            for (int row = 0; row < SIDE; row++) {
                toldInRow.set(row, grid.toldInRow(row));
            }
            for (int row = 0; row < grid.rows(); row++) {
                home = row;
                walk(this, 1, row, 1 << row);
            }
        }

        /** Goes on from a row; the depth is how many rows there are so far. Static, as the language wants recursion to be. */
        private static void walk(Rings rings, int depth, int row, int rowsSeen) {
            if (depth >= rings.turns) {
                if (rings.lead(depth, row, rings.home)) {
                    rings.collect(rowsSeen);
                }
                return;
            }
            for (int next = rings.home + 1; next < rings.grid.rows(); next++) {
                if (!holds(rowsSeen, next) && rings.lead(depth, row, next)) {
                    walk(rings, depth + 1, next, rowsSeen | 1 << next);
                }
            }
        }

        /** Makes the ways over so many columns, of those over one less and a column between the two rows. */
        private boolean lead(int size, int from, int to) {
            int both = toldInRow.get(from) & toldInRow.get(to);
            findRatios(both, from, to);
            forgetSetsOf(size);
            boolean isLed = false;
            for (int set = 0; set < COLUMN_SETS; set++) {
                int open = both & ~set;
                if (open != 0 && Integer.bitCount(set) == size - 1) {
                    for (int column = 0; column < SIDE; column++) {
                        if (holds(open, column) && leadOn(set, column)) {
                            isLed = true;
                        }
                    }
                }
            }
            return isLed;
        }

        private void findRatios(int columns, int from, int to) {
            for (int column = 0; column < SIDE; column++) {
                if (greatestRatio > 1 && holds(columns, column)) {
                    ratios.set(column, grid.quotient(grid.number(from, column), grid.number(to, column)));
                } else {
                    ratios.set(column, 1);
                }
            }
        }

        private boolean leadOn(int set, int column) {
            int larger = set | 1 << column;
            int ratio = ratios.get(column);
            boolean isLed = false;
            for (int i = 1; i <= greatestRatio; i++) {
                int count = ways.get(RATIOS * set + i);
                if (count != 0) {
                    int place = RATIOS * larger + grid.product(i, ratio);
                    ways.set(place, ways.get(place) + count);
                    isLed = true;
                }
            }
            return isLed;
        }

        private void forgetSetsOf(int size) {
            for (int set = 0; set < COLUMN_SETS; set++) {
                if (Integer.bitCount(set) == size) {
                    for (int i = 1; i <= greatestRatio; i++) {
                        ways.set(RATIOS * set + i, 0);
                    }
                }
            }
        }

        /** Counts the ways that have come home. */
        private void collect(int rows) {
            for (int set = 0; set < COLUMN_SETS; set++) {
                if (Integer.bitCount(set) == turns) {
                    all += ways.get(RATIOS * set + 1);
                    for (int i = 2; i <= greatestRatio; i++) {
                        noteWrong(ways.get(RATIOS * set + i), rows, set);
                    }
                }
            }
        }

        private void noteWrong(int count, int rows, int columns) {
            if (count == 0) {
                return;
            }
            boolean isEarlier = rows < wrongRows || (rows == wrongRows && columns < wrongColumns);
            if (wrongOnes == 0 || isEarlier) {
                wrongRows = rows;
                wrongColumns = columns;
            }
            all += count;
            wrongOnes += count;
        }

        int all() {
            // Each cycle was gone along both ways.
            return all / 2;
        }

        int wrongOnes() {
            return wrongOnes / 2;
        }

        /** The rows of the first one of the wrong cycles. */
        int wrongRows() {
            return wrongRows;
        }

        int wrongColumns() {
            return wrongColumns;
        }
    }

    /** Minors, and ranks of choices of rows and columns of which all entries are told. */
    private static final class Minors {
        /** The rows and columns that are eliminated, by the same places as in a grid. */
        private final Numbers matrix = new Numbers(SIDE * SIDE);

        int countAll(Grid grid, boolean onlyNotZero) {
            int minors = 0;
            for (int row = 0; row < grid.rows(); row++) {
                for (int column = 0; column < grid.columns(); column++) {
                    minors += countBelow(grid, row, column, onlyNotZero);
                }
            }
            return minors;
        }

        /** Counts the minors whose lowest row and column these are. */
        private int countBelow(Grid grid, int row, int column, boolean onlyNotZero) {
            int minors = 0;
            for (int other = row + 1; other < grid.rows(); other++) {
                for (int across = column + 1; across < grid.columns(); across++) {
                    if (isMinor(grid, row, other, column, across)
                            && !(onlyNotZero && isZero(grid, row, other, column, across))) {
                        minors++;
                    }
                }
            }
            return minors;
        }

        /** Counts the minors that an entry is in; each is a cycle of the length 4. */
        int countThrough(Grid grid, int row, int column) {
            int minors = 0;
            for (int other = 0; other < grid.rows(); other++) {
                for (int across = 0; across < grid.columns(); across++) {
                    if (other != row && across != column && isMinor(grid, row, other, column, across)) {
                        minors++;
                    }
                }
            }
            return minors;
        }

        private static boolean isMinor(Grid grid, int row, int other, int column, int across) {
            return grid.number(row, column) != 0 && grid.number(row, across) != 0
                    && grid.number(other, column) != 0 && grid.number(other, across) != 0;
        }

        private static boolean isZero(Grid grid, int row, int other, int column, int across) {
            return grid.product(grid.number(row, column), grid.number(other, across))
                    == grid.product(grid.number(row, across), grid.number(other, column));
        }

        /** The lower bound of the rank: more columns never lower a rank, so each choice of rows takes all it can. */
        int leastRank(Grid grid) {
            int greatest = 0;
            for (int rows = 1; rows < 1 << SIDE; rows++) {
                greatest = Math.max(greatest, rankOf(grid, rows));
            }
            return greatest;
        }

        /** The rank of the rows, in the columns in which all of them are told. */
        private int rankOf(Grid grid, int rows) {
            int columns = (1 << SIDE) - 1;
            int height = 0;
            for (int row = 0; row < SIDE; row++) {
                if (holds(rows, row)) {
                    columns &= grid.toldInRow(row);
                    for (int column = 0; column < SIDE; column++) {
                        matrix.set(SIDE * height + column, grid.number(row, column));
                    }
                    height++;
                }
            }
            int rank = 0;
            for (int column = 0; column < SIDE; column++) {
                if (holds(columns, column) && bringUp(height, rank, column)) {
                    for (int row = rank + 1; row < height; row++) {
                        eliminate(grid, rank, row, column);
                    }
                    rank++;
                }
            }
            return rank;
        }

        /** Puts a row that is not 0 in the column at the place of the pivot; false if there is none from there on. */
        private boolean bringUp(int height, int pivot, int column) {
            for (int row = pivot; row < height; row++) {
                if (matrix.get(SIDE * row + column) != 0) {
                    for (int i = 0; i < SIDE; i++) {
                        matrix.swap(SIDE * pivot + i, SIDE * row + i);
                    }
                    return true;
                }
            }
            return false;
        }

        /** Takes from the row so much of the pivot's row that it has 0 in the column. */
        private void eliminate(Grid grid, int pivot, int row, int column) {
            int factor = grid.quotient(matrix.get(SIDE * row + column), matrix.get(SIDE * pivot + column));
            // Adding the negative factor keeps all numbers 0 or more.
            int negative = grid.modulus() - factor;
            for (int i = 0; i < SIDE; i++) {
                int sum = matrix.get(SIDE * row + i) + negative * matrix.get(SIDE * pivot + i);
                matrix.set(SIDE * row + i, grid.remainder(sum));
            }
        }
    }

    /** The pad, and what its text says. */
    private static final class Pad {
        private static final int NO_SIGN = -1;

        private final Numbers codes = new Numbers(PAD_LIMIT);
        private int length;
        private int rows;
        private int columns;

        int length() {
            return length;
        }

        void empty() {
            length = 0;
        }

        void append(int code) {
            if (length < PAD_LIMIT) {
                codes.set(length, code);
                length++;
            }
        }

        /** Returns the fault, NONE if there is none; only then the rows, columns and numbers mean something. */
        int scan() {
            int ended = 0;
            int width = 0;
            int signs = 0;
            for (int i = 0; i < length; i++) {
                int code = codes.get(i);
                if (code == '/') {
                    if (signs < LEAST_SIDE || (ended > 0 && signs != width) || ended == SIDE - 1) {
                        return i;
                    }
                    width = signs;
                    signs = 0;
                    ended++;
                } else {
                    if (signOf(code) == NO_SIGN || signs == (ended > 0 ? width : SIDE)) {
                        return i;
                    }
                    signs++;
                }
            }
            if (ended == 0 || signs != width) {
                return length;
            }
            rows = ended + 1;
            columns = width;
            return NONE;
        }

        int rows() {
            return rows;
        }

        int columns() {
            return columns;
        }

        int number(int row, int column) {
            // Each row but the first one stands behind as many signs as columns, and a "/", for each row before it.
            return signOf(codes.get((columns + 1) * row + column));
        }

        int greatestNumber() {
            int greatest = 0;
            for (int i = 0; i < length; i++) {
                greatest = Math.max(greatest, signOf(codes.get(i)));
            }
            return greatest;
        }

        /** The number that a sign tells, 0 for an entry that is not told, NO_SIGN for what is no sign. */
        private static int signOf(int code) {
            if (code == '.') {
                return 0;
            }
            if (code >= '1' && code <= '9') {
                return code - '0';
            }
            return code >= 'a' && code <= 'c' ? code - 'a' + 10 : NO_SIGN;
        }
    }

    /** The states before the latest changes. */
    private static final class History {
        private final Grid[] past = new Grid[HISTORY_LIMIT];
        private int oldest;
        private int size;

        History() {
            for (int i = 0; i < past.length; i++) {
                past[i] = new Grid();
            }
        }

        int size() {
            return size;
        }

        void record(Grid grid) {
            if (size == HISTORY_LIMIT) {
                oldest = (oldest + 1) % HISTORY_LIMIT;
                size--;
            }
            Grid free = pastAt(size);
            if (free != null) {
                free.copyFrom(grid);
                size++;
            }
        }

        /** Takes the latest state out; null if there is none. */
        Grid takeLatest() {
            if (size == 0) {
                return null;
            }
            size--;
            return pastAt(size);
        }

        /** Counted from the oldest one on. */
        private Grid pastAt(int age) {
            int index = (oldest + age) % HISTORY_LIMIT;
            return index >= 0 && index < past.length ? past[index] : null;
        }
    }

    /** A saved state. */
    private static final class Slot {
        private final Grid saved = new Grid();
        private boolean filled;

        boolean isFilled() {
            return filled;
        }

        void keep(Grid grid) {
            saved.copyFrom(grid);
            filled = true;
        }

        void giveTo(Grid grid) {
            grid.copyFrom(saved);
        }
    }
}
