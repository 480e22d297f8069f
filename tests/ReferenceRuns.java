import java.util.ArrayDeque;
import java.util.ArrayList;
import java.util.HashMap;
import java.util.HashSet;
import java.util.List;
import java.util.Map;
import java.util.Set;

/**
 * Plays long runs of calls on the class and on a model that answers by other ways (trying all
 * rings as sets of entries, determinants, discrete logarithms, the grammar's prefixes), and
 * compares every answer. The runs come from a counter, so they are always the same.
 */
public final class ReferenceRuns {
    private static final int RUNS = 400;
    /** What an object answers after so many calls is free. */
    private static final int CALLS = 512;
    /** The most calls that a player's step makes: wipe, six puts, fault, read. */
    private static final int STEP = 9;
    private static final int SHOWN = 20;

    private static long seed;
    private static int wrong;

    /** Says that something differed; only the first ones are shown. */
    private static void complain(String text) {
        wrong++;
        if (wrong <= SHOWN) {
            System.out.println(text);
        }
    }

    private static int pick(int bound) {
        seed = seed * 6364136223846793005L + 1442695040888963407L;
        return (int) ((seed >>> 33) % bound);
    }

    public static void main(String[] args) {
        for (int run = 0; run < RUNS; run++) {
            seed = run * 7919L + 17;
            play(run);
        }
        for (int modulus : new int[] {5, 7}) {
            for (int i = 0; i < 60; i++) {
                seed = i * 104729L + modulus;
                compareCompletions(modulus);
            }
        }
        System.out.println(wrong == 0 ? "all answers agree" : wrong + " answers differ");
        if (wrong != 0) {
            System.exit(1);
        }
    }

    private static void play(int run) {
        OneRankGrid grid = new OneRankGrid();
        Model model = new Model();
        Player player = new Player(grid, model, run);
        while (player.calls + STEP <= CALLS && wrong == 0) {
            player.call();
        }
    }

    /** Compares with all grids that there are, in small grids. */
    private static void compareCompletions(int modulus) {
        int rows = 2 + pick(2);
        int columns = 2 + pick(2);
        int[][] told = new int[rows][columns];
        for (int i = pick(rows * columns); i > 0; i--) {
            told[pick(rows)][pick(columns)] = 1 + pick(modulus - 1);
        }
        OneRankGrid grid = gridOf(told, modulus);
        List<int[]> all = allCompletions(told, modulus);
        due("completions()", grid.completions(), all.size());
        due("count(5)", grid.count(5), all.isEmpty() ? 0 : 1);
        Set<List<Integer>> seen = new HashSet<>();
        OneRankGrid asked = grid;
        for (int k = 0; k < all.size(); k++) {
            if (k % 50 == 0) {
                asked = gridOf(told, modulus);
            }
            List<Integer> entries = new ArrayList<>();
            for (int place = 0; place < rows * columns; place++) {
                entries.add(asked.completed(k, place / columns, place % columns));
            }
            seen.add(entries);
        }
        Set<List<Integer>> expected = new HashSet<>();
        for (int[] entries : all) {
            List<Integer> list = new ArrayList<>();
            for (int number : entries) {
                list.add(number);
            }
            expected.add(list);
        }
        if (!seen.equals(expected)) {
            complain("completed() does not give the completions of " + java.util.Arrays.deepToString(told));
        }
        for (int place = 0; place < rows * columns; place++) {
            int same = all.isEmpty() ? -6 : all.get(0)[place];
            for (int[] entries : all) {
                if (entries[place] != same) {
                    same = -6;
                }
            }
            due("entry(.., 1)", grid.entry(place / columns, place % columns, 1), same);
        }
    }

    private static OneRankGrid gridOf(int[][] told, int modulus) {
        OneRankGrid grid = new OneRankGrid();
        grid.begin(told.length, told[0].length, modulus);
        for (int r = 0; r < told.length; r++) {
            for (int c = 0; c < told[r].length; c++) {
                grid.tell(r, c, told[r][c]);
            }
        }
        return grid;
    }

    /** All grids with the told entries in which each two rows are multiples, by the words of the document. */
    private static List<int[]> allCompletions(int[][] told, int modulus) {
        List<int[]> all = new ArrayList<>();
        fill(told, modulus, new int[told.length * told[0].length], 0, all);
        return all;
    }

    private static void fill(int[][] told, int modulus, int[] entries, int place, List<int[]> all) {
        int columns = told[0].length;
        if (place == entries.length) {
            all.add(entries.clone());
            return;
        }
        int row = place / columns;
        int column = place % columns;
        for (int number = 1; number < modulus; number++) {
            if (told[row][column] != 0 && told[row][column] != number) {
                continue;
            }
            entries[place] = number;
            boolean fits = true;
            for (int s = 0; s < row; s++) {
                for (int d = 0; d < column; d++) {
                    int one = number * entries[s * columns + d];
                    int other = entries[row * columns + d] * entries[s * columns + column];
                    fits &= one % modulus == other % modulus;
                }
            }
            if (fits) {
                fill(told, modulus, entries, place + 1, all);
            }
        }
    }

    private static void due(String call, long got, long want) {
        if (got != want) {
            complain(call + " answered " + got + ", due is " + want);
        }
    }

    /** Makes calls, mostly sensible ones. */
    private static final class Player {
        private final OneRankGrid grid;
        private final Model model;
        private final int run;
        private final StringBuilder trace = new StringBuilder();
        int calls = 0;

        Player(OneRankGrid grid, Model model, int run) {
            this.grid = grid;
            this.model = model;
            this.run = run;
        }

        private void same(String call, long got, long want) {
            calls++;
            trace.append("  ").append(call).append(" -> ").append(want).append('\n');
            if (got != want) {
                complain("run " + run + ": " + call + " answered " + got + ", due is " + want + ", after\n" + trace);
            }
        }

        private int line(int size) {
            int choice = pick(20);
            if (choice == 0) {
                return pick(4) == 0 ? Integer.MAX_VALUE : size;
            }
            if (choice == 1) {
                return pick(4) == 0 ? Integer.MIN_VALUE : -1;
            }
            return pick(size);
        }

        /** A number of 0 to the greatest, or one outside. */
        private int what(int greatest) {
            int choice = pick(24);
            if (choice == 0) {
                return greatest + 1;
            }
            if (choice == 1) {
                return pick(3) == 0 ? Integer.MIN_VALUE : -1;
            }
            return pick(greatest + 1);
        }

        private int numberFor(int row, int column) {
            boolean inside = row >= 0 && row < model.rows && column >= 0 && column < model.columns;
            int choice = pick(12);
            if (choice < 5 && inside && model.follows(row, column) > 0) {
                return model.follows(row, column);
            }
            return choice == 5 ? 0 : what(model.modulus - 1);
        }

        void call() {
            int kind = pick(100);
            if (kind < 30) {
                change();
            } else if (kind < 82) {
                ask();
            } else {
                write();
            }
        }

        private void change() {
            int kind = pick(40);
            if (kind == 0) {
                int rows = 1 + pick(7);
                int columns = 1 + pick(7);
                int modulus = new int[] {5, 7, 11, 13, 13, 3, 9, 17}[pick(8)];
                same("begin(" + rows + ", " + columns + ", " + modulus + ")", grid.begin(rows, columns, modulus),
                        model.begin(rows, columns, modulus));
            } else if (kind < 2) {
                same("tellAll()", grid.tellAll(), model.tellAll());
            } else if (kind < 5) {
                same("undo()", grid.undo(), model.undo());
            } else if (kind < 7) {
                int slot = what(1);
                same("save(" + slot + ")", grid.save(slot), model.save(slot));
            } else if (kind < 8) {
                int slot = what(1);
                same("restore(" + slot + ")", grid.restore(slot), model.restore(slot));
            } else {
                int row = line(model.rows);
                int column = line(model.columns);
                int number = numberFor(row, column);
                same("tell(" + row + ", " + column + ", " + number + ")", grid.tell(row, column, number),
                        model.tell(row, column, number));
            }
        }

        private void ask() {
            int row = line(model.rows);
            int column = line(model.columns);
            switch (pick(11)) {
                case 0, 1: {
                    int what = what(3);
                    same("entry(" + row + ", " + column + ", " + what + ")", grid.entry(row, column, what),
                            model.entry(row, column, what));
                    break;
                }
                case 2: {
                    int part = what(pick(12));
                    int what = what(2);
                    same("part(" + part + ", " + what + ")", grid.part(part, what), model.part(part, what));
                    break;
                }
                case 3, 4: {
                    int what = what(11);
                    same("count(" + what + ")", grid.count(what), model.count(what));
                    break;
                }
                case 5: {
                    int length = pick(8) == 0 ? pick(16) : 4 + 2 * pick(5);
                    int what = what(1);
                    same("cycles(" + length + ", " + what + ")", grid.cycles(length, what), model.cycles(length, what));
                    break;
                }
                case 6: {
                    int what = what(2);
                    same("wrong(" + what + ")", grid.wrong(what), model.wrongOnes(what));
                    break;
                }
                case 7: {
                    long all = model.completions();
                    same("completions()", grid.completions(), all);
                    long k = pick(10) == 0 ? all : pick(10) == 0 ? -1 : all == 0 ? 0 : all == 1 ? 0
                            : ((long) pick(1 << 30) << 30 | pick(1 << 30)) % all;
                    same("completed(" + k + ", " + row + ", " + column + ")", grid.completed(k, row, column),
                            model.completed(k, row, column));
                    break;
                }
                case 8: {
                    int number = numberFor(row, column);
                    same("isWellIf(" + row + ", " + column + ", " + number + ")", grid.isWellIf(row, column, number),
                            model.isWellIf(row, column, number));
                    break;
                }
                case 9:
                    same("spoilers()", grid.spoilers(), model.spoilers());
                    break;
                default: {
                    int what = what(2);
                    same("bestEntry(" + what + ")", grid.bestEntry(what), model.bestEntry(what));
                    break;
                }
            }
        }

        private void write() {
            int kind = pick(12);
            if (kind == 0) {
                same("wipe()", grid.wipe(), model.wipe());
            } else if (kind < 3) {
                same("fault()", grid.fault(), model.fault());
            } else if (kind == 3) {
                same("read()", grid.read(), model.read());
            } else if (kind < 7) {
                writeGrid();
            } else {
                long characters = word();
                same("put(" + characters + ")", grid.put(characters), model.put(characters));
            }
        }

        /** Some characters that mostly are signs, now and then with a code that is not taken. */
        private long word() {
            String signs = "...123456789abc//";
            long characters = 0;
            for (int i = pick(9); i > 0; i--) {
                int code = signs.charAt(pick(signs.length()));
                int choice = pick(60);
                if (choice == 0) {
                    code = pick(256);
                } else if (choice == 1) {
                    code = "0d-!~AB:`".charAt(pick(9));
                }
                characters = characters << 8 | code;
            }
            return characters;
        }

        /** Puts a whole grid, sometimes with one sign that is wrong, and reads it. */
        private void writeGrid() {
            same("wipe()", grid.wipe(), model.wipe());
            int rows = 2 + pick(5);
            int columns = 2 + pick(5);
            int[] rowNumbers = new int[rows];
            int[] columnNumbers = new int[columns];
            for (int i = 0; i < rows; i++) {
                rowNumbers[i] = 1 + pick(model.modulus - 1);
            }
            for (int i = 0; i < columns; i++) {
                columnNumbers[i] = 1 + pick(model.modulus - 1);
            }
            int gaps = 1 + pick(6);
            int errors = pick(3) == 0 ? 1000 : 4 + pick(30);
            StringBuilder text = new StringBuilder();
            for (int r = 0; r < rows; r++) {
                for (int c = 0; c < columns; c++) {
                    int number = rowNumbers[r] * columnNumbers[c] % model.modulus;
                    if (pick(errors) == 0) {
                        number = 1 + pick(model.modulus - 1);
                    }
                    text.append(pick(6) < gaps ? '.' : number < 10 ? (char) ('0' + number) : (char) ('a' + number - 10));
                }
                text.append(r + 1 < rows ? "/" : "");
            }
            if (pick(5) == 0) {
                text.setCharAt(pick(text.length()), "/.1c9".charAt(pick(5)));
            }
            for (int i = 0; i < text.length(); i += 8) {
                long characters = 0;
                for (int j = i; j < Math.min(i + 8, text.length()); j++) {
                    characters = characters << 8 | text.charAt(j);
                }
                same("put(" + characters + ")", grid.put(characters), model.put(characters));
            }
            same("fault()", grid.fault(), model.fault());
            same("read()", grid.read(), model.read());
        }
    }

    /** What the document says, told otherwise than in the class. */
    private static final class Model {
        int rows = 3;
        int columns = 3;
        int modulus = 7;
        int[][] told = new int[3][3];
        String pad = "";
        final ArrayDeque<Object[]> past = new ArrayDeque<>();
        final Object[][] slots = new Object[2][];

        // ---- states

        Object[] state() {
            return new Object[] {rows, columns, modulus, copy(told)};
        }

        void setState(Object[] state) {
            rows = (Integer) state[0];
            columns = (Integer) state[1];
            modulus = (Integer) state[2];
            told = copy((int[][]) state[3]);
        }

        static int[][] copy(int[][] numbers) {
            int[][] result = new int[numbers.length][];
            for (int i = 0; i < numbers.length; i++) {
                result[i] = numbers[i].clone();
            }
            return result;
        }

        void record() {
            past.addLast(state());
            if (past.size() > 6) {
                past.removeFirst();
            }
        }

        int undo() {
            if (past.isEmpty()) {
                return -5;
            }
            setState(past.removeLast());
            return past.size();
        }

        int save(int slot) {
            if (slot < 0 || slot > 1) {
                return -2;
            }
            slots[slot] = state();
            return toldCount();
        }

        int restore(int slot) {
            if (slot < 0 || slot > 1) {
                return -2;
            }
            if (slots[slot] == null) {
                return -5;
            }
            record();
            setState(slots[slot]);
            return toldCount();
        }

        // ---- changes

        int toldCount() {
            int count = 0;
            for (int[] row : told) {
                for (int number : row) {
                    count += number == 0 ? 0 : 1;
                }
            }
            return count;
        }

        int begin(int newRows, int newColumns, int newModulus) {
            if (newRows < 2 || newRows > 6 || newColumns < 2 || newColumns > 6
                    || !List.of(5, 7, 11, 13).contains(newModulus)) {
                return -2;
            }
            int before = toldCount();
            record();
            rows = newRows;
            columns = newColumns;
            modulus = newModulus;
            told = new int[rows][columns];
            return before;
        }

        boolean isInside(int row, int column) {
            return row >= 0 && row < rows && column >= 0 && column < columns;
        }

        int tell(int row, int column, int number) {
            if (!isInside(row, column)) {
                return -1;
            }
            if (number < 0 || number >= modulus) {
                return -2;
            }
            record();
            int previous = told[row][column];
            told[row][column] = number;
            return previous;
        }

        int tellAll() {
            if (!isWell()) {
                return -5;
            }
            int before = toldCount();
            int[][] next = new int[rows][columns];
            for (int r = 0; r < rows; r++) {
                for (int c = 0; c < columns; c++) {
                    next[r][c] = Math.max(0, follows(r, c));
                }
            }
            record();
            told = next;
            return toldCount() - before;
        }

        // ---- parts: what can be reached, by a matrix that is closed

        boolean[][] reach() {
            boolean[][] reach = new boolean[rows + columns][rows + columns];
            for (int i = 0; i < rows + columns; i++) {
                reach[i][i] = true;
            }
            for (int r = 0; r < rows; r++) {
                for (int c = 0; c < columns; c++) {
                    if (told[r][c] != 0) {
                        reach[r][rows + c] = true;
                        reach[rows + c][r] = true;
                    }
                }
            }
            for (int k = 0; k < rows + columns; k++) {
                for (int i = 0; i < rows + columns; i++) {
                    for (int j = 0; j < rows + columns; j++) {
                        reach[i][j] |= reach[i][k] && reach[k][j];
                    }
                }
            }
            return reach;
        }

        /** The lowest line of each part, in the order of the parts. */
        List<Integer> leaders() {
            boolean[][] reach = reach();
            List<Integer> leaders = new ArrayList<>();
            for (int i = 0; i < rows + columns; i++) {
                boolean isLowest = true;
                for (int j = 0; j < i; j++) {
                    isLowest &= !reach[i][j];
                }
                if (isLowest) {
                    leaders.add(i);
                }
            }
            return leaders;
        }

        int part(int part, int what) {
            List<Integer> leaders = leaders();
            if (part < 0 || part >= leaders.size()) {
                return -1;
            }
            boolean[] reached = reach()[leaders.get(part)];
            int answer = 0;
            switch (what) {
                case 0:
                    for (int r = 0; r < rows; r++) {
                        answer += reached[r] ? 1 << r : 0;
                    }
                    return answer;
                case 1:
                    for (int c = 0; c < columns; c++) {
                        answer += reached[rows + c] ? 1 << c : 0;
                    }
                    return answer;
                case 2:
                    for (int r = 0; r < rows; r++) {
                        for (int c = 0; c < columns; c++) {
                            answer += reached[r] && told[r][c] != 0 ? 1 : 0;
                        }
                    }
                    return answer;
                default:
                    return -2;
            }
        }

        int joined() {
            boolean[][] reach = reach();
            int count = 0;
            for (int r = 0; r < rows; r++) {
                for (int c = 0; c < columns; c++) {
                    count += reach[r][rows + c] ? 1 : 0;
                }
            }
            return count;
        }

        // ---- logarithms: products become sums

        int root() {
            for (int g = 2;; g++) {
                Set<Integer> powers = new HashSet<>();
                for (int i = 0, power = 1; i < modulus - 1; i++, power = power * g % modulus) {
                    powers.add(power);
                }
                if (powers.size() == modulus - 1) {
                    return g;
                }
            }
        }

        int log(int number) {
            int exponent = 0;
            for (int power = 1; power != number; power = power * root() % modulus) {
                exponent++;
            }
            return exponent;
        }

        int power(int exponent) {
            int power = 1;
            for (int i = Math.floorMod(exponent, modulus - 1); i > 0; i--) {
                power = power * root() % modulus;
            }
            return power;
        }

        /** Logarithms of the numbers of all lines, in each part from its leader on; null if the grid is not well. */
        int[] logs() {
            int[] logs = new int[rows + columns];
            boolean[] known = new boolean[rows + columns];
            for (int leader : leaders()) {
                List<Integer> queue = new ArrayList<>(List.of(leader));
                known[leader] = true;
                for (int head = 0; head < queue.size(); head++) {
                    int line = queue.get(head);
                    for (int other = 0; other < rows + columns; other++) {
                        int number = between(line, other);
                        if (number == 0) {
                            continue;
                        }
                        int due = Math.floorMod(log(number) - logs[line], modulus - 1);
                        if (!known[other]) {
                            known[other] = true;
                            logs[other] = due;
                            queue.add(other);
                        } else if (logs[other] != due) {
                            return null;
                        }
                    }
                }
            }
            return logs;
        }

        int between(int line, int other) {
            if (line < rows && other >= rows) {
                return told[line][other - rows];
            }
            return other < rows && line >= rows ? told[other][line - rows] : 0;
        }

        boolean isWell() {
            return logs() != null;
        }

        int follows(int row, int column) {
            int[] logs = logs();
            if (logs == null || !reach()[row][rows + column]) {
                return -6;
            }
            return power(logs[row] + logs[rows + column]);
        }

        int entry(int row, int column, int what) {
            if (!isInside(row, column)) {
                return -1;
            }
            if (what == 0) {
                return told[row][column];
            }
            if (what == 1) {
                return follows(row, column);
            }
            if (what == 2) {
                int kept = told[row][column];
                told[row][column] = 0;
                int answer = follows(row, column);
                told[row][column] = kept;
                return answer;
            }
            if (what != 3) {
                return -2;
            }
            int through = 0;
            for (long ring : rings(2).keySet()) {
                through += (int) (ring >> (6 * row + column)) & 1;
            }
            return through;
        }

        // ---- numbers

        int count(int what) {
            int minors = 0;
            int notZero = 0;
            for (Map.Entry<Long, Boolean> ring : rings(2).entrySet()) {
                minors++;
                notZero += ring.getValue() ? 1 : 0;
            }
            switch (what) {
                case 0:
                    return rows;
                case 1:
                    return columns;
                case 2:
                    return modulus;
                case 3:
                    return toldCount();
                case 4:
                    return leaders().size();
                case 5:
                    return isWell() ? 1 : 0;
                case 6:
                    return joined();
                case 7:
                    return minors;
                case 8:
                    return notZero;
                case 9:
                    return rank();
                case 10:
                    return pad.length();
                case 11:
                    return past.size();
                default:
                    return -2;
            }
        }

        /** The greatest side of a told square whose determinant is not 0. */
        int rank() {
            int rank = 0;
            for (int rowSet = 1; rowSet < 1 << rows; rowSet++) {
                for (int columnSet = 1; columnSet < 1 << columns; columnSet++) {
                    int side = Integer.bitCount(rowSet);
                    if (side > rank && side == Integer.bitCount(columnSet) && isAllTold(rowSet, columnSet)
                            && Math.floorMod(determinant(rowSet, columnSet), modulus) != 0) {
                        rank = side;
                    }
                }
            }
            return rank;
        }

        boolean isAllTold(int rowSet, int columnSet) {
            for (int r = 0; r < rows; r++) {
                for (int c = 0; c < columns; c++) {
                    if ((rowSet >> r & 1) != 0 && (columnSet >> c & 1) != 0 && told[r][c] == 0) {
                        return false;
                    }
                }
            }
            return true;
        }

        long determinant(int rowSet, int columnSet) {
            if (rowSet == 0) {
                return 1;
            }
            int row = Integer.numberOfTrailingZeros(rowSet);
            long sum = 0;
            long sign = 1;
            for (int c = 0; c < columns; c++) {
                if ((columnSet >> c & 1) != 0) {
                    sum += sign * told[row][c] * determinant(rowSet & rowSet - 1, columnSet & ~(1 << c));
                    sign = -sign;
                }
            }
            return sum;
        }

        // ---- cycles: the sets of their places, each with whether it is wrong

        Map<Long, Boolean> rings(int turns) {
            Map<Long, Boolean> rings = new HashMap<>();
            for (int row = 0; row < rows; row++) {
                follow(turns, new ArrayList<>(List.of(row)), new ArrayList<>(), 0, 0, rings);
            }
            return rings;
        }

        /** Goes any way round; the map keeps each set of places once. */
        void follow(int turns, List<Integer> rowPath, List<Integer> columnPath, long places, int sum,
                Map<Long, Boolean> rings) {
            int from = rowPath.get(rowPath.size() - 1);
            boolean isLast = rowPath.size() == turns;
            for (int c = 0; c < columns; c++) {
                if (told[from][c] == 0 || columnPath.contains(c)) {
                    continue;
                }
                columnPath.add(c);
                for (int to = 0; to < rows; to++) {
                    if (told[to][c] == 0 || (isLast ? to != rowPath.get(0) : rowPath.contains(to) || to < rowPath.get(0))) {
                        continue;
                    }
                    int next = sum + log(told[from][c]) - log(told[to][c]);
                    long placesThen = places | 1L << (6 * from + c) | 1L << (6 * to + c);
                    if (isLast) {
                        rings.put(placesThen, Math.floorMod(next, modulus - 1) != 0);
                    } else {
                        rowPath.add(to);
                        follow(turns, rowPath, columnPath, placesThen, next, rings);
                        rowPath.remove(rowPath.size() - 1);
                    }
                }
                columnPath.remove(columnPath.size() - 1);
            }
        }

        int cycles(int length, int what) {
            if (length < 4 || length > 12 || length % 2 != 0 || what < 0 || what > 1) {
                return -2;
            }
            int count = 0;
            for (boolean isWrong : rings(length / 2).values()) {
                count += what == 0 || isWrong ? 1 : 0;
            }
            return count;
        }

        int wrongOnes(int what) {
            if (what < 0 || what > 2) {
                return -2;
            }
            for (int turns = 2; turns <= 6; turns++) {
                int best = Integer.MAX_VALUE;
                for (Map.Entry<Long, Boolean> ring : rings(turns).entrySet()) {
                    if (ring.getValue()) {
                        best = Math.min(best, linesOf(ring.getKey()));
                    }
                }
                if (best < Integer.MAX_VALUE) {
                    return what == 0 ? 2 * turns : what == 1 ? best >> 6 : best & 63;
                }
            }
            return -6;
        }

        /** The set of the rows, and below it that of the columns. */
        static int linesOf(long places) {
            int lines = 0;
            for (int place = 0; place < 36; place++) {
                if ((places >> place & 1) != 0) {
                    lines |= 64 << place / 6 | 1 << place % 6;
                }
            }
            return lines;
        }

        // ---- completions

        long completions() {
            return isWell() ? Math.round(Math.pow(modulus - 1, leaders().size() - 1)) : 0;
        }

        int completed(long completion, int row, int column) {
            if (completion < 0 || completion >= completions() || !isInside(row, column)) {
                return -1;
            }
            int[] logs = logs();
            List<Integer> leaders = leaders();
            boolean[][] reach = reach();
            int sum = logs[row] + logs[rows + column];
            long rest = completion;
            for (int p = 1; p < leaders.size(); p++) {
                int factor = log(1 + (int) (rest % (modulus - 1)));
                rest /= modulus - 1;
                sum += reach[row][leaders.get(p)] ? factor : 0;
                sum -= reach[rows + column][leaders.get(p)] ? factor : 0;
            }
            return power(sum);
        }

        // ---- what if

        int isWellIf(int row, int column, int number) {
            if (!isInside(row, column)) {
                return -1;
            }
            if (number < 0 || number >= modulus) {
                return -2;
            }
            int kept = told[row][column];
            told[row][column] = number;
            int answer = isWell() ? 1 : 0;
            told[row][column] = kept;
            return answer;
        }

        long spoilers() {
            if (isWell()) {
                return -6;
            }
            long set = 0;
            for (int r = 0; r < rows; r++) {
                for (int c = 0; c < columns; c++) {
                    if (told[r][c] != 0 && isWellIf(r, c, 0) == 1) {
                        set += 1L << (6 * r + c);
                    }
                }
            }
            return set;
        }

        int bestEntry(int what) {
            if (what < 0 || what > 2) {
                return -2;
            }
            if (leaders().size() == 1) {
                return -6;
            }
            int before = joined();
            int[] best = {-1, -1, -1};
            for (int r = 0; r < rows; r++) {
                for (int c = 0; c < columns; c++) {
                    if (told[r][c] == 0) {
                        told[r][c] = 1;
                        int more = joined() - before;
                        told[r][c] = 0;
                        if (more > best[2]) {
                            best = new int[] {r, c, more};
                        }
                    }
                }
            }
            return best[what];
        }

        // ---- texts

        int put(long characters) {
            StringBuilder text = new StringBuilder();
            for (int shift = 56; shift >= 0; shift -= 8) {
                int code = (int) (characters >> shift) & 255;
                if (text.length() == 0 && code == 0) {
                    continue;
                }
                if (code < 33 || code > 126) {
                    return -2;
                }
                text.append((char) code);
            }
            if (text.length() == 0) {
                return -2;
            }
            if (pad.length() + text.length() > 50) {
                return -4;
            }
            pad += text;
            return pad.length();
        }

        int wipe() {
            int length = pad.length();
            pad = "";
            return length;
        }

        /** Whether some text of the grammar begins so (or, if whole, is so). */
        static boolean canBegin(String text, boolean whole) {
            String[] texts = text.split("/", -1);
            if (texts.length > 6 || whole && texts.length < 2 || !text.matches("[.1-9a-c/]*")) {
                return false;
            }
            for (int width = 2; width <= 6; width++) {
                boolean fits = texts[texts.length - 1].length() <= width;
                for (int i = 0; i < texts.length; i++) {
                    fits &= i == texts.length - 1 && !whole || texts[i].length() == width;
                }
                if (fits) {
                    return true;
                }
            }
            return false;
        }

        int fault() {
            for (int i = 0; i < pad.length(); i++) {
                if (!canBegin(pad.substring(0, i + 1), false)) {
                    return i;
                }
            }
            return canBegin(pad, true) ? -6 : pad.length();
        }

        int read() {
            if (fault() != -6) {
                return -3;
            }
            String[] texts = pad.split("/");
            int[][] next = new int[texts.length][texts[0].length()];
            for (int r = 0; r < texts.length; r++) {
                for (int c = 0; c < texts[r].length(); c++) {
                    next[r][c] = ".123456789abc".indexOf(texts[r].charAt(c));
                    if (next[r][c] >= modulus) {
                        return -2;
                    }
                }
            }
            record();
            rows = next.length;
            columns = next[0].length;
            told = next;
            pad = "";
            return toldCount();
        }
    }
}
