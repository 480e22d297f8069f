import java.util.ArrayList;
import java.util.HashSet;
import java.util.List;
import java.util.Set;
import java.util.TreeSet;

/** The boundaries that the document names for parts, counts, completions and the best entry. */
public final class PartBoundaries extends Checks {
    public static void main(String[] args) {
        partsOfNothing();
        onePartOfAll();
        onePartByTheLongestWay();
        rowsAndColumnsByThemselves();
        partsAreInTheOrderOfTheirLowestRows();
        partsWithoutRowsComeBehind();
        partsWhereItIsNotWell();
        partNamesItsErrorsInOrder();
        countTakesTwelveNumbers();
        countsOfNothingAndOfAll();
        completionsOfEachNumberOfParts();
        noCompletions();
        completedOfOnePart();
        completedOfAllDigits();
        completedOfElevenDigits();
        completedOfTheFirstAndTheLast();
        completedOfColumnsWithoutRows();
        completedIsACompletion();
        completedRefuses();
        bestEntryOfNothing();
        bestEntryOfOnePart();
        bestEntryOfSeveral();
        bestEntryAtTheEdges();
        bestEntryNamesItsErrorAheadOfNone();
        end();
    }

    private static void duePart(OneRankGrid x, int part, int rows, int columns, int told) {
        due("part(" + part + ", 0)", x.part(part, 0), rows);
        due("part(" + part + ", 1)", x.part(part, 1), columns);
        due("part(" + part + ", 2)", x.part(part, 2), told);
    }

    private static long power(int base, int exponent) {
        long power = 1;
        for (int i = 0; i < exponent; i++) {
            power *= base;
        }
        return power;
    }

    // ---- promise 7

    private static void partsOfNothing() {
        about(7, "a row or a column without told entries is a part by itself");
        for (int rows = 2; rows <= 6; rows++) {
            for (int columns = 2; columns <= 6; columns++) {
                OneRankGrid x = begun(rows, columns, 7);
                due("count(4) of nothing", x.count(4), rows + columns);
                for (int row = 0; row < rows; row++) {
                    duePart(x, row, 1 << row, 0, 0);
                }
                for (int column = 0; column < columns; column++) {
                    duePart(x, rows + column, 0, 1 << column, 0);
                }
                due("part() behind the last one", x.part(rows + columns, 0), NO_SUCH);
            }
        }
    }

    private static void onePartOfAll() {
        about(7, "rows and columns are in the same part if one can go from the one to the other by told entries");
        for (int rows = 2; rows <= 6; rows++) {
            for (int columns = 2; columns <= 6; columns++) {
                OneRankGrid x = gridOf(7, allOf('6', rows, columns));
                due("count(4) of all", x.count(4), 1);
                duePart(x, 0, (1 << rows) - 1, (1 << columns) - 1, rows * columns);
                due("part(1, 0) of all", x.part(1, 0), NO_SUCH);
            }
        }
        OneRankGrid x = gridOf(7, "....11/...11./..11../.11.../11..../1.....");
        duePart(x, 0, 63, 63, 11);
        due("count(4) of stairs that go up", x.count(4), 1);
        x = gridOf(7, "....11/...11./..1.../.11.../11..../1.....");
        duePart(x, 0, 3, 56, 4);
        duePart(x, 1, 60, 7, 6);
        due("part(2, 0)", x.part(2, 0), NO_SUCH);
    }

    private static void onePartByTheLongestWay() {
        about(7, "if one can go from the one to the other by told entries");
        int[] backwards = {5, 4, 3, 2, 1, 0};
        for (int number = 0; number < 720; number++) {
            dueWay(order(6, number), order(6, 0));
            dueWay(order(6, number), backwards);
            dueWay(order(6, 0), order(6, number));
            dueWay(backwards, order(6, number));
            dueWay(order(6, number), order(6, 719 - number));
        }
    }

    /** A way over all rows and columns in these orders, with just the entries that it takes. */
    private static void dueWay(int[] rows, int[] columns) {
        OneRankGrid x = begun(6, 6, 13);
        int far = 1;
        for (int i = 0; i < 6; i++) {
            x.tell(rows[i], columns[i], 2);
            far = quotient(2 * far, i == 0 ? 2 : 3, 13);
            if (i > 0) {
                x.tell(rows[i], columns[i - 1], 3);
            }
        }
        duePart(x, 0, 63, 63, 11);
        due("count(4) of one way", x.count(4), 1);
        due("count(5) of one way", x.count(5), 1);
        due("count(6) of one way", x.count(6), 36);
        due("completions() of one way", x.completions(), 1);
        due("bestEntry(0) of one way", x.bestEntry(0), NONE);
        // From the first row on, each column has 2 where the row behind has 3.
        due("the entry that the ends of the way join", x.entry(rows[0], columns[5], 1), 2 * far % 13);
        due("the same, completed", x.completed(0, rows[0], columns[5]), 2 * far % 13);
    }

    private static void rowsAndColumnsByThemselves() {
        about(7, "a row or a column without told entries is a part by itself");
        OneRankGrid x = gridOf(7, "11111./11111./11111./11111./11111./......");
        duePart(x, 0, 31, 31, 25);
        duePart(x, 1, 32, 0, 0);
        duePart(x, 2, 0, 32, 0);
        due("part(3, 0)", x.part(3, 0), NO_SUCH);
        x = gridOf(7, "....../.11111/.11111/.11111/.11111/.11111");
        duePart(x, 0, 1, 0, 0);
        duePart(x, 1, 62, 62, 25);
        duePart(x, 2, 0, 1, 0);
        x.tell(0, 0, 1);
        duePart(x, 0, 1, 1, 1);
        due("part(2, 0) when the two are joined", x.part(2, 0), NO_SUCH);
        x.tell(0, 0, 0);
        duePart(x, 0, 1, 0, 0);
        due("part(2, 1) when they are apart again", x.part(2, 1), 1);
    }

    private static void partsAreInTheOrderOfTheirLowestRows() {
        about(7, "parts are in the order of their lowest rows");
        // The columns' order is the other way round.
        OneRankGrid x = gridOf(7, ".....1/....1./...1../..1.../.1..../1.....");
        for (int part = 0; part < 6; part++) {
            duePart(x, part, 1 << part, 32 >> part, 1);
        }
        x = gridOf(7, "..1./1.../..1./1...");
        duePart(x, 0, 5, 4, 2);
        duePart(x, 1, 10, 1, 2);
        duePart(x, 2, 0, 2, 0);
        duePart(x, 3, 0, 8, 0);
        due("part(4, 0)", x.part(4, 0), NO_SUCH);
    }

    private static void partsWithoutRowsComeBehind() {
        about(7, "behind them come parts without rows, in the order of their columns");
        OneRankGrid x = gridOf(7, "....1./......");
        duePart(x, 0, 1, 16, 1);
        duePart(x, 1, 2, 0, 0);
        int[] columns = {1, 2, 4, 8, 32};
        for (int i = 0; i < columns.length; i++) {
            duePart(x, 2 + i, 0, columns[i], 0);
        }
        due("part(7, 0)", x.part(7, 0), NO_SUCH);
    }

    private static void partsWhereItIsNotWell() {
        about(7, "parts are about told entries, well or not");
        OneRankGrid x = gridOf(5, "11../12../..11/..14");
        duePart(x, 0, 3, 3, 4);
        duePart(x, 1, 12, 12, 4);
        due("part(2, 0)", x.part(2, 0), NO_SUCH);
        due("count(4)", x.count(4), 2);
        due("count(6)", x.count(6), 8);
    }

    private static void partNamesItsErrorsInOrder() {
        about(7, "NO_SUCH if there is no such part; BAD_VALUE if what is out of range");
        for (OneRankGrid x : new OneRankGrid[] {new OneRankGrid(), gridOf(7, "111/111/111"), gridOf(5, "11/12")}) {
            int parts = x.count(4);
            for (int bad : new int[] {parts, parts + 1, 12, 32, -1, LOW, HIGH}) {
                for (int what : new int[] {0, 2, 3, -1, LOW, HIGH}) {
                    due("part(" + bad + ", " + what + ")", x.part(bad, what), NO_SUCH);
                }
            }
            for (int what : new int[] {-1, 3, LOW, HIGH}) {
                due("part(0, " + what + ")", x.part(0, what), BAD_VALUE);
                due("part(" + (parts - 1) + ", " + what + ")", x.part(parts - 1, what), BAD_VALUE);
            }
        }
    }

    // ---- promise 8

    private static void countTakesTwelveNumbers() {
        about(8, "BAD_VALUE if what is out of range");
        OneRankGrid x = new OneRankGrid();
        for (int what = -20; what < 40; what++) {
            due("whether count(" + what + ") is refused", x.count(what) == BAD_VALUE ? 1 : 0, what < 0 || what > 11 ? 1 : 0);
        }
        due("count(LOW)", x.count(LOW), BAD_VALUE);
        due("count(HIGH)", x.count(HIGH), BAD_VALUE);
    }

    private static void countsOfNothingAndOfAll() {
        about(8, "3 told entries, 4 parts, 5 whether it is well, 6 entries whose row and column are in the same part");
        for (int modulus : MODULI) {
            for (int rows = 2; rows <= 6; rows++) {
                for (int columns = 2; columns <= 6; columns++) {
                    dueCounts(begun(rows, columns, modulus), rows, columns, modulus, 0, rows + columns, 0);
                    dueCounts(gridOf(modulus, allOf('4', rows, columns)), rows, columns, modulus,
                            rows * columns, 1, rows * columns);
                }
            }
        }
        OneRankGrid x = gridOf(5, "11./12./...");
        due("count(5) where it is not well", x.count(5), 0);
        due("count(6) where it is not well", x.count(6), 4);
        due("count(6) of entries that don't join", gridOf(5, "1../.1./..1").count(6), 3);
    }

    private static void dueCounts(OneRankGrid x, int rows, int columns, int modulus, int told, int parts, int joined) {
        int[] counts = {rows, columns, modulus, told, parts, 1, joined};
        for (int what = 0; what < counts.length; what++) {
            due("count(" + what + ")", x.count(what), counts[what]);
        }
        due("count(10)", x.count(10), 0);
    }

    // ---- promise 11

    private static void completionsOfEachNumberOfParts() {
        about(11, "how many completions there are");
        for (int modulus : MODULI) {
            for (int rows = 2; rows <= 6; rows++) {
                for (int columns = 2; columns <= 6; columns++) {
                    OneRankGrid x = begun(rows, columns, modulus);
                    due("completions() of nothing", x.completions(), power(modulus - 1, rows + columns - 1));
                    x = gridOf(modulus, allOf('4', rows, columns));
                    due("completions() of all", x.completions(), 1);
                }
            }
            OneRankGrid x = begun(6, 6, modulus);
            for (int step = 0; step < 11; step++) {
                x.tell((step + 1) / 2, step / 2, modulus - 1);
                due("completions() behind " + (step + 1) + " entries", x.completions(), power(modulus - 1, 10 - step));
            }
        }
    }

    private static void noCompletions() {
        about(11, "the grid is well if it has a completion");
        for (int modulus : MODULI) {
            for (int rows = 2; rows <= 6; rows++) {
                for (int columns = 2; columns <= 6; columns++) {
                    OneRankGrid x = begun(rows, columns, modulus);
                    x.tell(rows - 2, columns - 2, 1);
                    x.tell(rows - 2, columns - 1, 1);
                    x.tell(rows - 1, columns - 2, 1);
                    x.tell(rows - 1, columns - 1, modulus - 1);
                    due("completions() where it is not well", x.completions(), 0);
                    due("completed(0, 0, 0) where it is not well", x.completed(0, 0, 0), NO_SUCH);
                    x.tell(rows - 1, columns - 1, 1);
                    due("completions() where it is well", x.completions(), power(modulus - 1, rows + columns - 4));
                }
            }
        }
    }

    // ---- promise 12

    private static void completedOfOnePart() {
        about(12, "for the completion k, the part 0 has the factor 1");
        OneRankGrid x = gridOf(13, "123456/2...../3...../4...../5...../c.....");
        String all = "123456/2468ac/369c25/48c37b/5a27c4/cba987";
        for (int place = 0; place < 36; place++) {
            int number = SIGNS.indexOf(all.charAt(place / 6 * 7 + place % 6));
            due("completed(0, ..) of the place " + place, x.completed(0, place / 6, place % 6), number);
            due("completed(1, ..) of the place " + place, x.completed(1, place / 6, place % 6), NO_SUCH);
        }
    }

    /** Of nothing: the row r has the factor of the part r, the column c that of the part 2 + c, by which it is divided. */
    private static void completedOfAllDigits() {
        about(12, "the factor 1 more than the digit of k in its place; the part 1 has the lowest digit");
        for (int modulus : MODULI) {
            int base = modulus - 1;
            for (int k = 0; k < base * base * base; k++) {
                OneRankGrid x = begun(2, 2, modulus);
                int[] factors = {1, 1 + k % base, 1 + k / base % base, 1 + k / base / base};
                for (int row = 0; row < 2; row++) {
                    for (int column = 0; column < 2; column++) {
                        due("completed(" + k + ", " + row + ", " + column + ") modulo " + modulus,
                                x.completed(k, row, column), quotient(factors[row], factors[2 + column], modulus));
                    }
                }
            }
        }
    }

    private static void completedOfElevenDigits() {
        about(12, "the digits of k are those to the base (modulus less 1), and the part 1 has the lowest digit");
        for (int modulus : MODULI) {
            for (int step = 1; step <= 5; step++) {
                int[] factors = new int[12];
                long k = 0;
                for (int part = 11; part >= 0; part--) {
                    int digit = part == 0 ? 0 : (step * part + 3) % (modulus - 1);
                    factors[part] = 1 + digit;
                    k = part == 0 ? k : k * (modulus - 1) + digit;
                }
                OneRankGrid x = begun(6, 6, modulus);
                for (int place = 0; place < 36; place++) {
                    due("completed(" + k + ", ..) of the place " + place + " modulo " + modulus,
                            x.completed(k, place / 6, place % 6),
                            quotient(factors[place / 6], factors[6 + place % 6], modulus));
                }
            }
        }
    }

    private static void completedOfTheFirstAndTheLast() {
        about(12, "the completions are numbered from 0");
        for (int modulus : MODULI) {
            for (int rows = 2; rows <= 6; rows++) {
                for (int columns = 2; columns <= 6; columns++) {
                    dueFirstAndLast(begun(rows, columns, modulus), rows, columns, modulus);
                }
            }
        }
    }

    private static void dueFirstAndLast(OneRankGrid x, int rows, int columns, int modulus) {
        long last = power(modulus - 1, rows + columns - 1) - 1;
        // In the last one all factors but that of the part 0 are the modulus less 1, which divides itself and 1.
        for (int row = 0; row < rows; row++) {
            for (int column = 0; column < columns; column++) {
                due("completed(0, " + row + ", " + column + ")", x.completed(0, row, column), 1);
                due("completed(" + last + ", " + row + ", " + column + ")", x.completed(last, row, column),
                        row == 0 ? modulus - 1 : 1);
            }
        }
        due("completed() behind the last one", x.completed(last + 1, 0, 0), NO_SUCH);
        due("completed() ahead of the first one", x.completed(-1, 0, 0), NO_SUCH);
        // Just the last part has a digit here: the column that stands last is divided by 2.
        long only = power(modulus - 1, rows + columns - 2);
        due("completed(" + only + ") of the last column", x.completed(only, 0, columns - 1), quotient(1, 2, modulus));
        due("completed(" + only + ") of the last but one", x.completed(only, rows - 1, columns - 2), 1);
    }

    private static void completedOfColumnsWithoutRows() {
        about(12, "the lowest row has 1 (if it has no row, its column has 1)");
        // Parts: the rows 0 and 2 with the columns 1 and 3; the row 1 with the column 4; then the columns 0 and 2.
        OneRankGrid x = gridOf(11, ".2.3./....7/.4...");
        due("completions()", x.completions(), 1000);
        int[] rowNumbers = {1, 1, 2};
        int[] columnNumbers = {1, 2, 1, 3, 7};
        int[] rowParts = {0, 1, 0};
        int[] columnParts = {2, 0, 3, 0, 1};
        for (int k : new int[] {0, 1, 9, 10, 90, 99, 100, 123, 210, 900, 909, 990, 999}) {
            int[] factors = {1, 1 + k % 10, 1 + k / 10 % 10, 1 + k / 100};
            for (int row = 0; row < 3; row++) {
                for (int column = 0; column < 5; column++) {
                    int number = rowNumbers[row] * columnNumbers[column] * factors[rowParts[row]];
                    due("completed(" + k + ", " + row + ", " + column + ")", x.completed(k, row, column),
                            quotient(number, factors[columnParts[column]], 11));
                }
            }
        }
    }

    /** By the words of the document alone, in grids of each size and modulus of which some entries are told. */
    private static void completedIsACompletion() {
        about(12, "a completion has the told entries, and each two rows are multiples of each other");
        for (int modulus : MODULI) {
            for (int rows = 2; rows <= 6; rows++) {
                for (int columns = 2; columns <= 6; columns++) {
                    for (int step = 2; step <= 5; step++) {
                        dueCompletions(rows, columns, modulus, step);
                    }
                }
            }
        }
    }

    /** The told entries are products of a number for each row and column, so the grid is well. */
    private static void dueCompletions(int rows, int columns, int modulus, int step) {
        OneRankGrid x = begun(rows, columns, modulus);
        for (int place = step % 3; place < rows * columns; place += step) {
            int row = place / columns;
            int column = place % columns;
            x.tell(row, column, (1 + step * row % (modulus - 1)) * (1 + (column + step) % (modulus - 1)) % modulus);
        }
        long all = x.completions();
        due("completions()", all, power(modulus - 1, x.count(4) - 1));
        Set<List<Integer>> different = new HashSet<>();
        Set<Long> numbers = new TreeSet<>(List.of(0L, all / 3, all / 2, all - all / 5 - 1, all - 1));
        for (long k : numbers) {
            different.add(dueCompletion(x, k, rows, columns, modulus));
        }
        due("how many of the completions " + numbers + " are different", different.size(), numbers.size());
    }

    private static List<Integer> dueCompletion(OneRankGrid x, long k, int rows, int columns, int modulus) {
        List<Integer> entries = new ArrayList<>();
        for (int place = 0; place < rows * columns; place++) {
            int row = place / columns;
            int column = place % columns;
            int number = x.completed(k, row, column);
            entries.add(number);
            String entry = "completed(" + k + ", " + row + ", " + column + ") modulo " + modulus;
            due("whether " + entry + " is a number of the grid", number > 0 && number < modulus ? 1 : 0, 1);
            int told = x.entry(row, column, 0);
            due(entry + " of a told entry", told == 0 ? 0 : number, told);
            // It is enough to compare each entry with the first row and the first column, as no number is 0.
            due(entry + " by the first one", number * entries.get(0) % modulus,
                    entries.get(columns * row) * entries.get(column) % modulus);
        }
        return entries;
    }

    private static void completedRefuses() {
        about(12, "NO_SUCH if there is no such completion, row or column");
        OneRankGrid x = begun(2, 6, 5);
        long all = power(4, 7);
        for (long bad : new long[] {all, all + 1, -1, -all, 1L << 32, (1L << 32) + 1, 1L << 62, Long.MIN_VALUE, Long.MAX_VALUE}) {
            due("completed(" + bad + ", 0, 0)", x.completed(bad, 0, 0), NO_SUCH);
            due("completed(" + bad + ", 2, 6)", x.completed(bad, 2, 6), NO_SUCH);
        }
        for (int bad : new int[] {-1, 2, 5, 6, LOW, HIGH}) {
            due("completed(0, " + bad + ", 0)", x.completed(0, bad, 0), NO_SUCH);
        }
        for (int bad : new int[] {-1, 6, 7, LOW, HIGH}) {
            due("completed(0, 0, " + bad + ")", x.completed(0, 0, bad), NO_SUCH);
        }
        due("completed(0, 1, 5)", x.completed(0, 1, 5), 1);
    }

    // ---- promise 15

    private static void dueBest(String of, OneRankGrid x, int row, int column, int more) {
        due("bestEntry(0) of " + of, x.bestEntry(0), row);
        due("bestEntry(1) of " + of, x.bestEntry(1), column);
        due("bestEntry(2) of " + of, x.bestEntry(2), more);
    }

    private static void bestEntryOfNothing() {
        about(15, "of several the one with the lowest place; how many entries more (with itself)");
        for (int rows = 2; rows <= 6; rows++) {
            for (int columns = 2; columns <= 6; columns++) {
                dueBest("nothing", begun(rows, columns, 7), 0, 0, 1);
            }
        }
    }

    private static void bestEntryOfOnePart() {
        about(15, "NONE if there is only one part");
        for (int rows = 2; rows <= 6; rows++) {
            for (int columns = 2; columns <= 6; columns++) {
                dueBest("all", gridOf(7, allOf('1', rows, columns)), NONE, NONE, NONE);
                OneRankGrid x = gridOf(7, allOf('1', rows, columns));
                x.tell(rows - 1, columns - 1, 0);
                dueBest("all but the last one", x, NONE, NONE, NONE);
            }
        }
        dueBest("one part by few entries", gridOf(7, "1...../11..../.11.../..11../...11./....11"), NONE, NONE, NONE);
        dueBest("one part that is not well", gridOf(7, "11/12"), NONE, NONE, NONE);
        dueBest("two parts, both of one kind", gridOf(7, "1./1."), 0, 1, 2);
        dueBest("two parts, one of them a row", gridOf(7, "11/.."), 1, 0, 2);
    }

    private static void bestEntryOfSeveral() {
        about(15, "the most entries more would have their row and column in the same part");
        dueBest("two halves", gridOf(7, "111.../111.../111.../...111/...111/...111"), 0, 3, 18);
        dueBest("a quarter, and the rest", gridOf(7, "1...../.11111/.11111/.11111/.11111/.11111"), 0, 1, 10);
        dueBest("what is not well", gridOf(7, "123.../131.../312.../...111/...131/...111"), 0, 3, 18);
        // The lowest place is by rows: the row 1 would come ahead if the columns decided.
        dueBest("a row that is alone", gridOf(7, "..11/..../1.../...."), 0, 0, 3);
        dueBest("several that are as good", gridOf(7, "...1/..1./.1../1..."), 0, 0, 2);
    }

    private static void bestEntryAtTheEdges() {
        about(15, "of several the one with the lowest place");
        dueBest("all but the last row and column", gridOf(7, "11111./11111./11111./11111./11111./......"), 0, 5, 5);
        OneRankGrid x = gridOf(7, "1111../1111../1111../1111../....11/......");
        dueBest("what the lowest part does not win", x, 0, 4, 12);
        // Parts: rows 0, 1 with columns 0 to 3; rows 2, 3, 4 with column 4; row 5; column 5.
        x = gridOf(7, "1111../1111../....1./....1./....1./......");
        dueBest("a place in the lower rows", x, 0, 4, 14);
        x.tell(0, 4, 1);
        dueBest("the last row and the last column", x, 0, 5, 5);
        x.tell(0, 5, 1);
        dueBest("the last row", x, 5, 0, 6);
        x = gridOf(7, "111111/111111/111111/111111/111111/......");
        dueBest("the last row by itself", x, 5, 0, 6);
        x = gridOf(7, "11111./11111./11111./11111./11111./11111.");
        dueBest("the last column by itself", x, 0, 5, 6);
        x = gridOf(7, "....../1...../1...../1...../1...../.11111");
        dueBest("rows in the middle", x, 1, 1, 21);
    }

    private static void bestEntryNamesItsErrorAheadOfNone() {
        about(15, "BAD_VALUE if what is out of range");
        for (OneRankGrid x : new OneRankGrid[] {new OneRankGrid(), gridOf(7, "111/111/111"), gridOf(7, "11/12")}) {
            for (int bad : new int[] {-1, 3, 4, LOW, HIGH}) {
                due("bestEntry(" + bad + ")", x.bestEntry(bad), BAD_VALUE);
            }
        }
    }
}
