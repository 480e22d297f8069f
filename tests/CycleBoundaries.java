/** The boundaries that the document names for cycles, wrong ones, minors, the lower bound of the rank, and spoilers. */
public final class CycleBoundaries extends Checks {
    public static void main(String[] args) {
        cyclesOfNothing();
        cyclesOfAll();
        cyclesThatAreTooLong();
        theShortestAndTheLongestCycle();
        theLongestCycleInEachOrder();
        oneEntryLessIsNoCycle();
        cyclesRefuse();
        eachMinorOfEachModulus();
        wrongCyclesOfAll();
        wrongRefusesAheadOfNone();
        noneIsWrong();
        theLeastLengthComesFirst();
        thenTheSetOfTheRows();
        thenTheSetOfTheColumns();
        minorsOfNothingAndOfAll();
        rankOfNothing();
        rankOfAll();
        rankModuloTheModulus();
        rankOfWhatIsTold();
        spoilersWhereItIsWell();
        spoilersOfEachPlace();
        spoilersOfNone();
        end();
    }

    private static int choose(int all, int some) {
        int ways = 1;
        for (int i = 0; i < some; i++) {
            ways = ways * (all - i) / (i + 1);
        }
        return ways;
    }

    private static int factorial(int number) {
        return number < 2 ? 1 : number * factorial(number - 1);
    }

    /** How many cycles there are if all is told: the orders of the rows but for start and direction, those of the columns. */
    private static int allCycles(int rows, int columns, int turns) {
        return choose(rows, turns) * choose(columns, turns) * factorial(turns) * factorial(turns - 1) / 2;
    }

    /** A ring of so many rows and columns, from a row and a column on: the diagonal, and what is right of it. */
    private static OneRankGrid ring(int turns, int firstRow, int firstColumn, int number) {
        OneRankGrid x = begun(6, 6, 7);
        for (int i = 0; i < turns; i++) {
            x.tell(firstRow + i, firstColumn + i, 1);
            x.tell(firstRow + i, firstColumn + (i + 1) % turns, i == 0 ? number : 1);
        }
        return x;
    }

    // ---- promise 9

    private static void cyclesOfNothing() {
        about(9, "0 all cycles of this length, 1 the wrong ones");
        for (int rows = 2; rows <= 6; rows++) {
            for (int columns = 2; columns <= 6; columns++) {
                OneRankGrid x = begun(rows, columns, 5);
                for (int length = 4; length <= 12; length += 2) {
                    due("cycles(" + length + ", 0) of nothing", x.cycles(length, 0), 0);
                    due("cycles(" + length + ", 1) of nothing", x.cycles(length, 1), 0);
                }
            }
        }
    }

    private static void cyclesOfAll() {
        about(9, "it does not matter where it begins and which way it goes");
        for (int modulus : MODULI) {
            for (int rows = 2; rows <= 6; rows++) {
                for (int columns = 2; columns <= 6; columns++) {
                    OneRankGrid x = gridOf(modulus, allOf('4', rows, columns));
                    for (int length = 4; length <= 12; length += 2) {
                        String call = "cycles(" + length + ", ..) of " + rows + " rows and " + columns + " columns";
                        due(call, x.cycles(length, 0), allCycles(rows, columns, length / 2));
                        due(call + ", wrong ones", x.cycles(length, 1), 0);
                    }
                }
            }
        }
    }

    private static void cyclesThatAreTooLong() {
        about(9, "k different rows and k different columns");
        OneRankGrid x = gridOf(7, "123456/111111");
        for (int length = 6; length <= 12; length += 2) {
            due("cycles(" + length + ", 0) of two rows", x.cycles(length, 0), 0);
            due("cycles(" + length + ", 1) of two rows", x.cycles(length, 1), 0);
        }
        x = gridOf(7, "12/34/56/11/21/31");
        for (int length = 6; length <= 12; length += 2) {
            due("cycles(" + length + ", 0) of two columns", x.cycles(length, 0), 0);
            due("cycles(" + length + ", 1) of two columns", x.cycles(length, 1), 0);
        }
        // Two cycles with a row in common are no longer one.
        x = gridOf(7, "11../1111/..11");
        due("cycles(4, 0) of two that meet", x.cycles(4, 0), 2);
        due("cycles(6, 0) of two that meet", x.cycles(6, 0), 0);
        due("cycles(8, 0) of two that meet", x.cycles(8, 0), 0);
    }

    private static void theShortestAndTheLongestCycle() {
        about(9, "a cycle of the length 2 * k (k is 2 or more); length: 4, 6, 8, 10 or 12");
        for (int turns = 2; turns <= 6; turns++) {
            for (int first = 0; first <= 6 - turns; first++) {
                for (int number = 1; number <= 6; number++) {
                    OneRankGrid x = ring(turns, first, 6 - turns - first, number);
                    for (int length = 4; length <= 12; length += 2) {
                        boolean isIts = length == 2 * turns;
                        due("cycles(" + length + ", 0) of " + turns + " rows", x.cycles(length, 0), isIts ? 1 : 0);
                        due("cycles(" + length + ", 1) of " + turns + " rows", x.cycles(length, 1),
                                isIts && number != 1 ? 1 : 0);
                    }
                }
            }
        }
    }

    private static void theLongestCycleInEachOrder() {
        about(9, "row, column, row, column, and so on, back to the first row");
        for (int number = 0; number < 720; number++) {
            dueRing(order(6, number), order(6, 0));
            dueRing(order(6, 0), order(6, number));
            dueRing(order(6, number), order(6, 719 - number));
        }
    }

    /** A ring over all rows and columns in these orders; the last of its entries makes it wrong. */
    private static void dueRing(int[] rows, int[] columns) {
        OneRankGrid x = begun(6, 6, 13);
        long set = 0;
        for (int i = 0; i < 6; i++) {
            int behind = columns[(i + 1) % 6];
            x.tell(rows[i], columns[i], 5);
            x.tell(rows[i], behind, 5);
            set |= 1L << (6 * rows[i] + columns[i]) | 1L << (6 * rows[i] + behind);
        }
        due("cycles(12, 0) of one ring", x.cycles(12, 0), 1);
        due("cycles(12, 1) of one ring that is right", x.cycles(12, 1), 0);
        x.tell(rows[5], columns[0], 6);
        due("cycles(12, 1) of one ring that is wrong", x.cycles(12, 1), 1);
        dueWrong("one ring", x, 12, 63, 63);
        due("spoilers() of one ring", x.spoilers(), set);
        due("entry(.., 2) of the wrong one", x.entry(rows[5], columns[0], 2), 5);
    }

    private static void oneEntryLessIsNoCycle() {
        about(9, "to a ring, back to the first row");
        for (int turns = 2; turns <= 6; turns++) {
            for (int gap = 0; gap < 2 * turns; gap++) {
                OneRankGrid x = ring(turns, 0, 0, 2);
                x.tell(gap / 2, (gap / 2 + gap % 2) % turns, 0);
                for (int length = 4; length <= 12; length += 2) {
                    due("cycles(" + length + ", 0) of a ring with a gap", x.cycles(length, 0), 0);
                    due("cycles(" + length + ", 1) of a ring with a gap", x.cycles(length, 1), 0);
                }
                due("wrong(0) of a ring with a gap", x.wrong(0), NONE);
            }
        }
    }

    private static void cyclesRefuse() {
        about(9, "BAD_VALUE if an argument is out of range");
        for (OneRankGrid x : new OneRankGrid[] {new OneRankGrid(), gridOf(7, allOf('1', 6, 6)), gridOf(7, "11/12")}) {
            for (int length = -14; length <= 30; length++) {
                boolean isTaken = length >= 4 && length <= 12 && length % 2 == 0;
                due("whether cycles(" + length + ", 0) is refused", x.cycles(length, 0) == BAD_VALUE ? 1 : 0, isTaken ? 0 : 1);
                due("cycles(" + length + ", 2)", x.cycles(length, 2), BAD_VALUE);
                due("cycles(" + length + ", -1)", x.cycles(length, -1), BAD_VALUE);
            }
            for (int bad : new int[] {LOW, LOW + 4, HIGH, HIGH - 1, 1 << 30}) {
                due("cycles(" + bad + ", 0)", x.cycles(bad, 0), BAD_VALUE);
                due("cycles(4, " + bad + ")", x.cycles(4, bad), BAD_VALUE);
                due("cycles(12, " + bad + ")", x.cycles(12, bad), BAD_VALUE);
            }
        }
    }

    private static void eachMinorOfEachModulus() {
        about(9, "wrong if the product of each second one of its entries is not the product of the others");
        for (int modulus : MODULI) {
            for (int a = 1; a < modulus; a++) {
                for (int b = 1; b < modulus; b++) {
                    for (int c = 1; c < modulus; c++) {
                        for (int d = 1; d < modulus; d++) {
                            dueMinor(modulus, a, b, c, d);
                        }
                    }
                }
            }
        }
    }

    private static void dueMinor(int modulus, int a, int b, int c, int d) {
        OneRankGrid x = begun(2, 2, modulus);
        x.tell(0, 0, a);
        x.tell(0, 1, b);
        x.tell(1, 0, c);
        x.tell(1, 1, d);
        boolean isWrong = a * d % modulus != b * c % modulus;
        String of = " of " + a + " " + b + " / " + c + " " + d + " modulo " + modulus;
        due("cycles(4, 0)" + of, x.cycles(4, 0), 1);
        due("cycles(4, 1)" + of, x.cycles(4, 1), isWrong ? 1 : 0);
        due("wrong(0)" + of, x.wrong(0), isWrong ? 4 : NONE);
        due("wrong(1)" + of, x.wrong(1), isWrong ? 3 : NONE);
        due("wrong(2)" + of, x.wrong(2), isWrong ? 3 : NONE);
        due("count(5)" + of, x.count(5), isWrong ? 0 : 1);
        due("count(7)" + of, x.count(7), 1);
        due("count(8)" + of, x.count(8), isWrong ? 1 : 0);
        due("count(9)" + of, x.count(9), isWrong ? 2 : 1);
        due("spoilers()" + of, x.spoilers(), isWrong ? 195 : NONE);
        due("completions()" + of, x.completions(), isWrong ? 0 : 1);
    }

    private static void wrongCyclesOfAll() {
        about(9, "1 the wrong ones");
        for (int rows = 2; rows <= 6; rows++) {
            for (int columns = 2; columns <= 6; columns++) {
                OneRankGrid x = gridOf(13, allOf('1', rows, columns));
                x.tell(rows - 1, 0, 12);
                for (int turns = 2; turns <= 6; turns++) {
                    // Of the cycles so many go through one entry, as each has 2 * turns of all entries.
                    int want = allCycles(rows, columns, turns) * 2 * turns / (rows * columns);
                    due("cycles(" + 2 * turns + ", 1) of one wrong entry", x.cycles(2 * turns, 1), want);
                    due("cycles(" + 2 * turns + ", 0) of one wrong entry", x.cycles(2 * turns, 0),
                            allCycles(rows, columns, turns));
                }
            }
        }
    }

    // ---- promise 10

    private static void dueWrong(String of, OneRankGrid x, int length, int rows, int columns) {
        due("wrong(0) of " + of, x.wrong(0), length);
        due("wrong(1) of " + of, x.wrong(1), rows);
        due("wrong(2) of " + of, x.wrong(2), columns);
    }

    private static void wrongRefusesAheadOfNone() {
        about(10, "BAD_VALUE if what is out of range, ahead of NONE");
        for (OneRankGrid x : new OneRankGrid[] {new OneRankGrid(), gridOf(7, "11/12"), gridOf(7, "11/11")}) {
            for (int bad : new int[] {-1, 3, 4, LOW, HIGH}) {
                due("wrong(" + bad + ")", x.wrong(bad), BAD_VALUE);
            }
        }
    }

    private static void noneIsWrong() {
        about(10, "NONE if no cycle is wrong");
        for (int rows = 2; rows <= 6; rows++) {
            for (int columns = 2; columns <= 6; columns++) {
                dueWrong("nothing", begun(rows, columns, 13), NONE, NONE, NONE);
                dueWrong("all", gridOf(13, allOf('c', rows, columns)), NONE, NONE, NONE);
                OneRankGrid x = gridOf(13, allOf('c', rows, columns));
                x.tell(rows - 1, columns - 1, 1);
                due("wrong(0) as soon as one is", x.wrong(0), 4);
                x.tell(rows - 1, columns - 1, 12);
                dueWrong("all, told right again", x, NONE, NONE, NONE);
            }
        }
    }

    private static void theLeastLengthComesFirst() {
        about(10, "of those with the least length");
        for (int turns = 2; turns <= 6; turns++) {
            for (int first = 0; first <= 6 - turns; first++) {
                int set = (1 << turns) - 1;
                dueWrong("a ring of " + turns + " rows", ring(turns, first, 6 - turns - first, 6), 2 * turns,
                        set << first, set << (6 - turns - first));
            }
        }
        dueWrong("a shorter one in later rows", gridOf(7, "11..../.11.../2.1.../...11./...12./......"), 4, 24, 24);
        dueWrong("a longer one, as the shorter is right", gridOf(7, "11..../.11.../2.1.../...11./...11./......"), 6, 7, 7);
        dueWrong("a longer one in later rows", gridOf(7, "11..../11..../..11../...11./..1.21/......"), 6, 28, 28);
    }

    private static void thenTheSetOfTheRows() {
        about(10, "in the order of the sets of their rows (as numbers)");
        // Each pair of rows is told in two columns of its own or in the same, one entry is wrong.
        dueWrong("the rows 0 and 5, 1 and 2", gridOf(7, "11..../..11../..12../....../....../12...."), 4, 6, 12);
        dueWrong("the rows 0 and 5, 3 and 4", gridOf(7, "11..../....../....../..11../..12../12...."), 4, 24, 12);
        dueWrong("the rows 4 and 5, 0 and 1", gridOf(7, "....11/....12/....../....../11..../12...."), 4, 3, 48);
        dueWrong("the rows 2 and 3, 0 and 4", gridOf(7, "11..../....../....11/....12/12..../......"), 4, 12, 48);
        dueWrong("rows before columns", gridOf(7, "...11./...12./11..../12..../....../......"), 4, 3, 24);
    }

    private static void thenTheSetOfTheColumns() {
        about(10, "of several in that of the sets of their columns (as numbers)");
        dueWrong("the columns 0 and 5, 1 and 2", gridOf(7, "111111/123332"), 4, 3, 3);
        dueWrong("the last two columns", gridOf(7, "111111/111112"), 4, 3, 33);
        dueWrong("the columns 0 and 1 are right", gridOf(7, "111111/112222"), 4, 3, 5);
        dueWrong("the columns 0, 1 and 2 are right", gridOf(7, "111111/111233"), 4, 3, 9);
        dueWrong("columns that are not told in both", gridOf(7, "1.1.11/.11123"), 4, 3, 20);
        // The rows 0 and 2 are joined, rightly, by two columns, so there are two longer cycles in the same rows.
        dueWrong("the columns 0, 1, 2 and 1, 2, 3", gridOf(7, "11.1/.11./2.12"), 6, 7, 7);
        dueWrong("the columns 0, 1, 3 and 1, 2, 3", gridOf(7, "111./.1.1/2.21"), 6, 7, 11);
    }

    // ---- promise 8: minors and the lower bound of the rank

    private static void minorsOfNothingAndOfAll() {
        about(8, "7 minors, 8 minors that are not 0");
        for (int rows = 2; rows <= 6; rows++) {
            for (int columns = 2; columns <= 6; columns++) {
                int all = choose(rows, 2) * choose(columns, 2);
                int through = (rows - 1) * (columns - 1);
                due("count(7) of nothing", begun(rows, columns, 11).count(7), 0);
                due("count(8) of nothing", begun(rows, columns, 11).count(8), 0);
                OneRankGrid x = gridOf(11, allOf('a', rows, columns));
                due("count(7) of all", x.count(7), all);
                due("count(8) of all", x.count(8), 0);
                x.tell(rows - 1, columns - 1, 1);
                due("count(7) of all, one wrong", x.count(7), all);
                due("count(8) of all, one wrong", x.count(8), through);
                x.tell(rows - 1, columns - 1, 0);
                due("count(7) of all but the last", x.count(7), all - through);
                due("count(8) of all but the last", x.count(8), 0);
            }
        }
        OneRankGrid x = gridOf(11, "11/11");
        for (int place = 0; place < 4; place++) {
            x.tell(place / 2, place % 2, 0);
            due("count(7) of three entries", x.count(7), 0);
            x.tell(place / 2, place % 2, 1);
        }
        due("count(7) of four entries", x.count(7), 1);
    }

    private static void rankOfNothing() {
        about(8, "9 the lower bound of the rank: 0 if nothing is told");
        for (int rows = 2; rows <= 6; rows++) {
            for (int columns = 2; columns <= 6; columns++) {
                OneRankGrid x = begun(rows, columns, 7);
                due("count(9) of nothing", x.count(9), 0);
                for (int place = 0; place < rows * columns; place++) {
                    x.tell(place / columns, place % columns, 6);
                    due("count(9) of the place " + place, x.count(9), 1);
                    x.tell(place / columns, place % columns, 0);
                }
                due("count(9) of nothing again", x.count(9), 0);
            }
        }
    }

    /** A grid of ones with twos on the diagonal: of n rows and columns its determinant is n + 1. */
    private static OneRankGrid diagonal(int rows, int columns, int modulus) {
        OneRankGrid x = gridOf(modulus, allOf('1', rows, columns));
        for (int i = 0; i < Math.min(rows, columns); i++) {
            x.tell(i, i, 2);
        }
        return x;
    }

    private static void rankOfAll() {
        about(8, "the greatest number of its rows of which none is a sum of multiples of the others");
        for (int rows = 2; rows <= 6; rows++) {
            for (int columns = 2; columns <= 6; columns++) {
                due("count(9) of all that are the same", gridOf(11, allOf('3', rows, columns)).count(9), 1);
                int side = Math.min(rows, columns);
                due("count(9) of a diagonal of " + side, diagonal(rows, columns, 11).count(9), side);
                OneRankGrid x = gridOf(11, allOf('3', rows, columns));
                x.tell(rows - 1, columns - 1, 4);
                due("count(9) of all but one that are the same", x.count(9), 2);
            }
        }
    }

    private static void rankModuloTheModulus() {
        about(8, "the greatest rank, modulo the modulus");
        for (int modulus : MODULI) {
            for (int side = 2; side <= 6; side++) {
                int want = (side + 1) % modulus == 0 ? side - 1 : side;
                due("count(9) of a diagonal of " + side + " modulo " + modulus, diagonal(side, side, modulus).count(9), want);
            }
        }
        due("count(9) of 12/24 modulo 7", gridOf(7, "12/24").count(9), 1);
        due("count(9) of 34/12 modulo 5: 6 is 4 and not 1", gridOf(5, "34/12").count(9), 2);
        due("count(9) of 31/12 modulo 5: 6 is 1", gridOf(5, "31/12").count(9), 1);
    }

    private static void rankOfWhatIsTold() {
        about(8, "of all choices of rows and columns of which all entries are told");
        due("count(9) of the diagonal alone", gridOf(7, "1...../.2..../..3.../...4../....5./.....6").count(9), 1);
        due("count(9) of all but the diagonal", gridOf(7, ".11111/1.1111/11.111/111.11/1111.1/11111.").count(9), 1);
        OneRankGrid x = diagonal(6, 6, 11);
        for (int i = 0; i < 6; i++) {
            x.tell(i, i, 0);
            due("count(9) without the entry " + i + " of the diagonal", x.count(9), 5);
            x.tell(i, i, 2);
        }
        x.tell(0, 0, 0);
        x.tell(1, 1, 0);
        // All rows but 1 are told in all columns but 0.
        due("count(9) without two entries of the diagonal", x.count(9), 5);
        x.tell(1, 0, 0);
        x.tell(0, 1, 0);
        due("count(9) without the four first entries", x.count(9), 4);
        // The rows 0 and 1 with all columns, or the columns 0 and 1 with all rows: what is larger is not of more rank.
        due("count(9) of two rows and a column", gridOf(7, "111111/222222/3...../4...../5...../6.....").count(9), 1);
        due("count(9) of two rows that differ in the last", gridOf(7, "111111/222223/3...../4...../5...../6.....").count(9), 2);
        due("count(9) of the last two rows and columns", gridOf(7, "1..../.1.../...12/...23").count(9), 2);
        due("count(9) of rows that are not side by side", gridOf(7, "1..2../....../....../3..4../....../......").count(9), 2);
    }

    // ---- promise 14

    private static void spoilersWhereItIsWell() {
        about(14, "-6 if the grid is well");
        for (int rows = 2; rows <= 6; rows++) {
            for (int columns = 2; columns <= 6; columns++) {
                due("spoilers() of nothing", begun(rows, columns, 5).spoilers(), NONE);
                due("spoilers() of all", gridOf(5, allOf('2', rows, columns)).spoilers(), NONE);
            }
        }
        due("spoilers() of one that is not in a cycle", gridOf(5, "123/1../1..").spoilers(), NONE);
    }

    private static void spoilersOfEachPlace() {
        about(14, "the told entries, as a set of their places (6 * r + c), each of which alone spoils it");
        for (int rows = 2; rows <= 6; rows++) {
            for (int columns = 2; columns <= 6; columns++) {
                OneRankGrid x = gridOf(5, allOf('1', rows, columns));
                for (int place = 0; place < rows * columns; place++) {
                    int row = place / columns;
                    int column = place % columns;
                    x.tell(row, column, 2);
                    due("spoilers() of (" + row + ", " + column + ") in " + rows + " rows and " + columns + " columns",
                            x.spoilers(), spoilersOf(rows, columns, row, column));
                    x.tell(row, column, 1);
                }
            }
        }
        for (int turns = 2; turns <= 6; turns++) {
            long set = 0;
            for (int i = 0; i < turns; i++) {
                set |= 1L << (7 * i) | 1L << (6 * i + (i + 1) % turns);
            }
            due("spoilers() of a ring of " + turns + " rows", ring(turns, 0, 0, 3).spoilers(), set);
        }
        due("spoilers() of the last ring of 4", ring(2, 4, 4, 3).spoilers(), 3L << 28 | 3L << 34);
    }

    /** If all but one entry are the same: that one, and in two rows or columns each one by which it is in all its cycles. */
    private static long spoilersOf(int rows, int columns, int row, int column) {
        long set = 1L << (6 * row + column);
        if (rows == 2) {
            set |= 1L << (6 * (1 - row) + column);
        }
        if (columns == 2) {
            set |= 1L << (6 * row + 1 - column);
        }
        if (rows == 2 && columns == 2) {
            set |= 1L << (6 * (1 - row) + 1 - column);
        }
        return set;
    }

    private static void spoilersOfNone() {
        about(14, "the grid would be well if it (alone) was not told");
        due("spoilers() of two cycles apart", gridOf(7, "11../12../..11/..12").spoilers(), 0);
        due("spoilers() of two wrong entries apart", gridOf(7, "1111/1211/1121/1111").spoilers(), 0);
        due("spoilers() of one in two cycles", gridOf(7, "111/12./1.2").spoilers(), 1);
    }
}
