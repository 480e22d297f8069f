/** The boundaries that the document names for grids, and for begin, tell, tellAll, entry and isWellIf. */
public final class GridBoundaries extends Checks {
    public static void main(String[] args) {
        aNewGrid();
        objectsHaveNothingInCommon();
        beginTakesJustTheseSizesAndModuli();
        beginTellsNothing();
        beginReturnsHowManyWereTold();
        beginNamesOneErrorForAll();
        tellTakesEachPlaceAndNoOther();
        tellTakesEachNumberAndNoOther();
        tellReturnsThePreviousNumber();
        tellNamesItsErrorsInOrder();
        tellAllOfNothingAndOfAll();
        tellAllOfTheMost();
        tellAllIsNotPossible();
        entryTakesEachPlaceAndNoOther();
        entryNamesItsErrorsInOrder();
        followingNumbersOfEachModulus();
        nothingFollowsWhereItIsNotWell();
        followingWithoutTheEntry();
        cyclesThroughAnEntry();
        isWellIfTakesTheNumbersOfTell();
        isWellIfOverTheEdgesOfWell();
        isWellIfNamesItsErrorsInOrder();
        end();
    }

    // ---- promise 1

    private static void aNewGrid() {
        about(1, "a grid of 3 rows, 3 columns and the modulus 7, of which nothing is told");
        OneRankGrid x = new OneRankGrid();
        int[] counts = {3, 3, 7, 0, 6, 1, 0, 0, 0, 0, 0, 0};
        for (int what = 0; what < counts.length; what++) {
            due("count(" + what + ")", x.count(what), counts[what]);
        }
        dueGrid("nothing", x, ".../.../...");
        due("entry(3, 2, 0)", x.entry(3, 2, 0), NO_SUCH);
        due("entry(2, 3, 0)", x.entry(2, 3, 0), NO_SUCH);
        due("tell(2, 2, 7)", x.tell(2, 2, 7), BAD_VALUE);
        due("tell(2, 2, 6)", x.tell(2, 2, 6), 0);
        x = new OneRankGrid();
        due("fault()", x.fault(), 0);
        due("wipe()", x.wipe(), 0);
        due("read()", x.read(), BAD_TEXT);
        due("undo()", x.undo(), NOT_POSSIBLE);
        due("restore(0)", x.restore(0), NOT_POSSIBLE);
        due("restore(1)", x.restore(1), NOT_POSSIBLE);
    }

    private static void objectsHaveNothingInCommon() {
        about(1, "creates a grid");
        OneRankGrid x = gridOf(13, "12/3c");
        x.save(0);
        x.put(word("12"));
        OneRankGrid y = new OneRankGrid();
        due("count(2) of another one", y.count(2), 7);
        due("count(10) of another one", y.count(10), 0);
        due("restore(0) of another one", y.restore(0), NOT_POSSIBLE);
        due("undo() of another one", y.undo(), NOT_POSSIBLE);
        y.begin(6, 6, 5);
        y.save(0);
        y.put(word("123"));
        dueGrid("another one's calls", x, "12/3c");
        due("count(10)", x.count(10), 2);
        due("count(11)", x.count(11), 2);
        x.tell(0, 0, 0);
        due("restore(0)", x.restore(0), 4);
    }

    // ---- promise 2

    private static void beginTakesJustTheseSizesAndModuli() {
        about(2, "rows, columns: 2 to 6; modulus: 5, 7, 11 or 13; BAD_VALUE if an argument is out of range");
        int[] sizes = {LOW, -6, -2, -1, 0, 1, 2, 3, 4, 5, 6, 7, 8, 66, HIGH};
        for (int rows : sizes) {
            for (int columns : sizes) {
                for (int modulus = -14; modulus <= 20; modulus++) {
                    beginOnce(rows, columns, modulus);
                }
                for (int modulus : new int[] {LOW, LOW + 5, 23, 26, 35, 55, 91, 5005, 65543, HIGH}) {
                    beginOnce(rows, columns, modulus);
                }
            }
        }
    }

    private static void beginOnce(int rows, int columns, int modulus) {
        OneRankGrid x = new OneRankGrid();
        x.tell(1, 2, 4);
        boolean isTaken = rows >= 2 && rows <= 6 && columns >= 2 && columns <= 6
                && (modulus == 5 || modulus == 7 || modulus == 11 || modulus == 13);
        String call = "begin(" + rows + ", " + columns + ", " + modulus + ")";
        due(call, x.begin(rows, columns, modulus), isTaken ? 1 : BAD_VALUE);
        due("count(0) after " + call, x.count(0), isTaken ? rows : 3);
        due("count(1) after " + call, x.count(1), isTaken ? columns : 3);
        due("count(2) after " + call, x.count(2), isTaken ? modulus : 7);
        due("count(3) after " + call, x.count(3), isTaken ? 0 : 1);
        due("count(11) after " + call, x.count(11), isTaken ? 2 : 1);
    }

    private static void beginTellsNothing() {
        about(2, "begins anew with a grid of which nothing is told");
        for (int rows = 2; rows <= 6; rows++) {
            for (int columns = 2; columns <= 6; columns++) {
                OneRankGrid x = gridOf(13, allOf('c', 6, 6));
                due("begin() on a grid of which all is told", x.begin(rows, columns, 13), 36);
                dueGrid("begin()", x, allOf('.', rows, columns));
                due("begin(6, 6, 13)", x.begin(6, 6, 13), 0);
                dueGrid("begin(6, 6, 13), as nothing is left of the larger one", x, allOf('.', 6, 6));
            }
        }
    }

    private static void beginReturnsHowManyWereTold() {
        about(2, "returns how many entries were told");
        due("begin() on nothing", new OneRankGrid().begin(3, 3, 7), 0);
        for (int rows = 2; rows <= 6; rows++) {
            for (int columns = 2; columns <= 6; columns++) {
                OneRankGrid x = gridOf(5, allOf('4', rows, columns));
                due("begin() on all", x.begin(2, 2, 7), rows * columns);
                x = begun(rows, columns, 5);
                x.tell(rows - 1, columns - 1, 1);
                due("begin() on the last entry", x.begin(6, 6, 7), 1);
                due("begin() again", x.begin(6, 6, 7), 0);
            }
        }
    }

    private static void beginNamesOneErrorForAll() {
        about(2, "BAD_VALUE if an argument is out of range");
        OneRankGrid x = new OneRankGrid();
        due("begin(1, 7, 6)", x.begin(1, 7, 6), BAD_VALUE);
        due("begin(7, 1, 7)", x.begin(7, 1, 7), BAD_VALUE);
        due("begin(7, 7, 13)", x.begin(7, 7, 13), BAD_VALUE);
        due("begin(6, 7, 12)", x.begin(6, 7, 12), BAD_VALUE);
        due("count(11)", x.count(11), 0);
    }

    // ---- promise 3

    private static void tellTakesEachPlaceAndNoOther() {
        about(3, "NO_SUCH if there is no such row or column");
        for (int rows = 2; rows <= 6; rows++) {
            for (int columns = 2; columns <= 6; columns++) {
                tellEachPlace(rows, columns);
                tellOutside(rows, columns);
            }
        }
    }

    private static void tellEachPlace(int rows, int columns) {
        for (int place = 0; place < rows * columns; place++) {
            int row = place / columns;
            int column = place % columns;
            OneRankGrid x = begun(rows, columns, 11);
            due("tell(" + row + ", " + column + ", 10)", x.tell(row, column, 10), 0);
            StringBuilder want = new StringBuilder(allOf('.', rows, columns));
            want.setCharAt((columns + 1) * row + column, 'a');
            dueGrid("tell(" + row + ", " + column + ", 10)", x, want.toString());
            due("tell(" + row + ", " + column + ", 0)", x.tell(row, column, 0), 10);
            dueGrid("tell(" + row + ", " + column + ", 0)", x, allOf('.', rows, columns));
        }
    }

    private static void tellOutside(int rows, int columns) {
        OneRankGrid x = gridOf(7, allOf('3', rows, columns));
        for (int bad : new int[] {rows, rows + 1, 6, 7, -1, -2, LOW, HIGH, 1 << 29}) {
            due("tell(" + bad + ", 0, 1)", x.tell(bad, 0, 1), NO_SUCH);
            due("tell(" + bad + ", 0, 0)", x.tell(bad, 0, 0), NO_SUCH);
        }
        for (int bad : new int[] {columns, columns + 1, 6, 7, -1, -2, LOW, HIGH, 1 << 30}) {
            due("tell(0, " + bad + ", 1)", x.tell(0, bad, 1), NO_SUCH);
            due("tell(" + (rows - 1) + ", " + bad + ", 1)", x.tell(rows - 1, bad, 1), NO_SUCH);
        }
        due("tell() outside in both", x.tell(rows, columns, 1), NO_SUCH);
        dueGrid("tell() that was refused", x, allOf('3', rows, columns));
        due("count(11)", x.count(11), 2);
    }

    private static void tellTakesEachNumberAndNoOther() {
        about(3, "number: 1 to the modulus less 1, or 0; BAD_VALUE if number is out of range");
        for (int modulus : MODULI) {
            OneRankGrid x = begun(2, 2, modulus);
            for (int number = -20; number <= 30; number++) {
                boolean isTaken = number >= 0 && number < modulus;
                int before = x.entry(1, 0, 0);
                due("tell(1, 0, " + number + ") modulo " + modulus, x.tell(1, 0, number), isTaken ? before : BAD_VALUE);
                due("entry(1, 0, 0) modulo " + modulus, x.entry(1, 0, 0), isTaken ? number : before);
            }
            for (int number : new int[] {LOW, HIGH, 256, 1 << 16, modulus + 256, -modulus}) {
                due("tell(1, 0, " + number + ") modulo " + modulus, x.tell(1, 0, number), BAD_VALUE);
            }
        }
    }

    private static void tellReturnsThePreviousNumber() {
        about(3, "returns the previous number (0 if it was not told)");
        OneRankGrid x = begun(2, 2, 13);
        int previous = 0;
        for (int number : new int[] {0, 12, 12, 0, 0, 1, 12, 1, 0}) {
            due("tell(1, 1, " + number + ")", x.tell(1, 1, number), previous);
            due("count(3)", x.count(3), number == 0 ? 0 : 1);
            previous = number;
        }
    }

    private static void tellNamesItsErrorsInOrder() {
        about(3, "NO_SUCH ahead of BAD_VALUE");
        OneRankGrid x = new OneRankGrid();
        for (int number : new int[] {-1, 7, LOW, HIGH}) {
            due("tell(3, 0, " + number + ")", x.tell(3, 0, number), NO_SUCH);
            due("tell(0, 3, " + number + ")", x.tell(0, 3, number), NO_SUCH);
            due("tell(-1, 0, " + number + ")", x.tell(-1, 0, number), NO_SUCH);
            due("tell(0, -1, " + number + ")", x.tell(0, -1, number), NO_SUCH);
            due("tell(2, 2, " + number + ")", x.tell(2, 2, number), BAD_VALUE);
        }
    }

    // ---- promise 4

    private static void tellAllOfNothingAndOfAll() {
        about(4, "tells all entries that follow; returns how many entries are told by that");
        for (int rows = 2; rows <= 6; rows++) {
            for (int columns = 2; columns <= 6; columns++) {
                OneRankGrid x = begun(rows, columns, 5);
                due("tellAll() of nothing", x.tellAll(), 0);
                dueGrid("tellAll() of nothing", x, allOf('.', rows, columns));
                x = gridOf(5, allOf('3', rows, columns));
                due("tellAll() of all", x.tellAll(), 0);
                dueGrid("tellAll() of all", x, allOf('3', rows, columns));
                due("tell(.., 0) of the last one", x.tell(rows - 1, columns - 1, 0), 3);
                due("tellAll() of all but one", x.tellAll(), 1);
                dueGrid("tellAll() of all but one", x, allOf('3', rows, columns));
            }
        }
    }

    private static void tellAllOfTheMost() {
        about(4, "tells all entries that follow");
        OneRankGrid x = gridOf(13, "123456/2...../3...../4...../5...../c.....");
        due("tellAll() of a row and a column", x.tellAll(), 25);
        dueGrid("tellAll() of a row and a column", x, "123456/2468ac/369c25/48c37b/5a27c4/cba987");
        x = gridOf(13, "1...../11..../.11.../..11../...11./....11");
        due("tellAll() of stairs", x.tellAll(), 25);
        dueGrid("tellAll() of stairs", x, allOf('1', 6, 6));
        x = gridOf(7, "1...../.2..../..3.../...4../....5./.....6");
        due("tellAll() where no entry joins another", x.tellAll(), 0);
        dueGrid("tellAll() where no entry joins another", x, "1...../.2..../..3.../...4../....5./.....6");
    }

    private static void tellAllIsNotPossible() {
        about(4, "NOT_POSSIBLE if the grid is not well");
        for (int rows = 2; rows <= 6; rows++) {
            for (int columns = 2; columns <= 6; columns++) {
                OneRankGrid x = gridOf(5, allOf('1', rows, columns));
                x.tell(rows - 1, columns - 1, 4);
                due("tellAll() where the last entry is wrong", x.tellAll(), NOT_POSSIBLE);
                due("count(11)", x.count(11), 3);
                x = gridOf(5, allOf('1', rows, columns));
                x.tell(0, 0, 2);
                due("tellAll() where the first entry is wrong", x.tellAll(), NOT_POSSIBLE);
            }
        }
        OneRankGrid x = gridOf(7, "11..../12..../......");
        due("tellAll() where only one part is wrong", x.tellAll(), NOT_POSSIBLE);
        dueGrid("tellAll() that was refused", x, "11..../12..../......");
        x = gridOf(7, "1...../....11/....12");
        due("tellAll() where only the last part is wrong", x.tellAll(), NOT_POSSIBLE);
    }

    // ---- promise 6

    private static void entryTakesEachPlaceAndNoOther() {
        about(6, "NO_SUCH if there is no such row or column");
        for (int rows = 2; rows <= 6; rows++) {
            for (int columns = 2; columns <= 6; columns++) {
                OneRankGrid x = gridOf(11, allOf('7', rows, columns));
                for (int what = 0; what <= 3; what++) {
                    for (int bad : new int[] {rows, 6, 7, -1, LOW, HIGH}) {
                        due("entry(" + bad + ", 0, " + what + ")", x.entry(bad, 0, what), NO_SUCH);
                    }
                    for (int bad : new int[] {columns, 6, 7, -1, LOW, HIGH}) {
                        due("entry(0, " + bad + ", " + what + ")", x.entry(0, bad, what), NO_SUCH);
                    }
                }
                due("entry() of the last one", x.entry(rows - 1, columns - 1, 0), 7);
            }
        }
    }

    private static void entryNamesItsErrorsInOrder() {
        about(6, "NO_SUCH ahead of BAD_VALUE, and NONE only if no error applies");
        OneRankGrid x = gridOf(5, "11./12./...");
        for (int what : new int[] {-1, 4, 5, LOW, HIGH}) {
            due("entry(3, 0, " + what + ")", x.entry(3, 0, what), NO_SUCH);
            due("entry(0, 3, " + what + ")", x.entry(0, 3, what), NO_SUCH);
            due("entry(-1, -1, " + what + ")", x.entry(-1, -1, what), NO_SUCH);
            due("entry(0, 0, " + what + ")", x.entry(0, 0, what), BAD_VALUE);
            due("entry(2, 2, " + what + ")", x.entry(2, 2, what), BAD_VALUE);
        }
        due("entry(2, 2, 1)", x.entry(2, 2, 1), NONE);
        due("entry(3, 2, 1)", x.entry(3, 2, 1), NO_SUCH);
    }

    private static void followingNumbersOfEachModulus() {
        about(6, "1 the number that follows; numbers are multiplied modulo the modulus");
        for (int modulus : MODULI) {
            for (int a = 1; a < modulus; a++) {
                for (int b = 1; b < modulus; b++) {
                    for (int c = 1; c < modulus; c += 3) {
                        OneRankGrid x = begun(2, 2, modulus);
                        x.tell(0, 0, a);
                        x.tell(0, 1, b);
                        x.tell(1, 0, c);
                        due("the number below " + b + " where " + c + " is below " + a + " modulo " + modulus,
                                x.entry(1, 1, 1), quotient(b * c, a, modulus));
                    }
                }
            }
        }
        OneRankGrid x = gridOf(13, "1...../c2..../.3c.../..c5../...7b./....c1");
        due("entry(0, 5, 1) over all rows and columns", x.entry(0, 5, 1), x.completed(0, 0, 5));
        due("entry(0, 5, 1)", x.entry(0, 5, 1), stairs());
    }

    /** The last number of the first row of the stairs 1, c 2, 3 c, c 5, 7 b, c 1 modulo 13: from each row to the next one. */
    private static int stairs() {
        int number = 1;
        int[][] steps = {{12, 2}, {3, 12}, {12, 5}, {7, 11}, {12, 1}};
        for (int[] step : steps) {
            number = quotient(number * step[1], step[0], 13);
        }
        return number;
    }

    private static void nothingFollowsWhereItIsNotWell() {
        about(6, "NONE if the grid is not well, also of a told entry, or if none follows");
        OneRankGrid x = gridOf(5, "11../12../..3./....");
        for (int place = 0; place < 16; place++) {
            due("entry(.., 1) of the place " + place + " where it is not well", x.entry(place / 4, place % 4, 1), NONE);
        }
        x.tell(1, 1, 1);
        String follows = "11../11../..3./....";
        for (int place = 0; place < 16; place++) {
            int number = SIGNS.indexOf(follows.charAt(place / 4 * 5 + place % 4));
            due("entry(.., 1) of the place " + place, x.entry(place / 4, place % 4, 1), number == 0 ? NONE : number);
        }
        x = begun(6, 6, 13);
        for (int place = 0; place < 36; place++) {
            due("entry(.., 1) of nothing", x.entry(place / 6, place % 6, 1), NONE);
            due("entry(.., 2) of nothing", x.entry(place / 6, place % 6, 2), NONE);
            due("entry(.., 3) of nothing", x.entry(place / 6, place % 6, 3), 0);
        }
        x = gridOf(13, allOf('c', 6, 6));
        for (int place = 0; place < 36; place++) {
            due("entry(.., 1) of all", x.entry(place / 6, place % 6, 1), 12);
            due("entry(.., 2) of all", x.entry(place / 6, place % 6, 2), 12);
            due("entry(.., 3) of all", x.entry(place / 6, place % 6, 3), 25);
        }
    }

    private static void followingWithoutTheEntry() {
        about(6, "2 the number that would follow if this entry was not told (as 1, by the grid without it)");
        OneRankGrid x = gridOf(7, "11/13");
        due("entry(0, 0, 2): 1 * 1 / 3", x.entry(0, 0, 2), 5);
        due("entry(0, 1, 2): 1 * 3 / 1", x.entry(0, 1, 2), 3);
        due("entry(1, 0, 2)", x.entry(1, 0, 2), 3);
        due("entry(1, 1, 2)", x.entry(1, 1, 2), 1);
        x = gridOf(7, "111/132/111");
        due("entry(1, 1, 2) where another one is wrong, too", x.entry(1, 1, 2), NONE);
        due("entry(1, 2, 2) where another one is wrong, too", x.entry(1, 2, 2), NONE);
        x.tell(1, 2, 1);
        due("entry(1, 1, 2) of the wrong one", x.entry(1, 1, 2), 1);
        due("entry(0, 0, 2) of one that is right", x.entry(0, 0, 2), NONE);
        x = gridOf(7, "12/3.");
        due("entry(0, 0, 2) of one without which nothing joins", x.entry(0, 0, 2), NONE);
        due("entry(1, 1, 2) of one that is not told", x.entry(1, 1, 2), 6);
        dueGrid("entry()", x, "12/3.");
        due("count(11)", x.count(11), 2);
    }

    private static void cyclesThroughAnEntry() {
        about(6, "3 how many cycles of the length 4 it is in");
        for (int rows = 2; rows <= 6; rows++) {
            for (int columns = 2; columns <= 6; columns++) {
                OneRankGrid x = gridOf(11, allOf('1', rows, columns));
                x.tell(0, 0, 5);
                int most = (rows - 1) * (columns - 1);
                due("entry(0, 0, 3), wrong or not", x.entry(0, 0, 3), most);
                due("entry() of the last one", x.entry(rows - 1, columns - 1, 3), most);
                x.tell(0, 0, 0);
                due("entry(0, 0, 3) of one not told", x.entry(0, 0, 3), 0);
                due("entry() of the last one without the first", x.entry(rows - 1, columns - 1, 3), most - 1);
                due("entry(0, 1, 3)", x.entry(0, 1, 3), (rows - 1) * (columns - 2));
                due("entry(1, 0, 3)", x.entry(1, 0, 3), (rows - 2) * (columns - 1));
            }
        }
    }

    // ---- promise 13

    private static void isWellIfTakesTheNumbersOfTell() {
        about(13, "number: as for tell()");
        for (int modulus : MODULI) {
            OneRankGrid x = begun(2, 2, modulus);
            x.tell(0, 0, 1);
            x.tell(0, 1, modulus - 1);
            x.tell(1, 0, modulus - 1);
            for (int number = -3; number <= modulus + 3; number++) {
                int want = number < 0 || number >= modulus ? BAD_VALUE : number <= 1 ? 1 : 0;
                due("isWellIf(1, 1, " + number + ") modulo " + modulus, x.isWellIf(1, 1, number), want);
            }
            due("isWellIf(1, 1, LOW)", x.isWellIf(1, 1, LOW), BAD_VALUE);
            due("isWellIf(1, 1, HIGH)", x.isWellIf(1, 1, HIGH), BAD_VALUE);
            due("count(3), as nothing changes", x.count(3), 3);
            due("count(11), as nothing changes", x.count(11), 4);
        }
    }

    private static void isWellIfOverTheEdgesOfWell() {
        about(13, "whether the grid would be well if an entry was told so");
        OneRankGrid x = gridOf(5, allOf('2', 6, 6));
        for (int place = 0; place < 36; place++) {
            due("isWellIf(.., 2) as it is told", x.isWellIf(place / 6, place % 6, 2), 1);
            due("isWellIf(.., 0)", x.isWellIf(place / 6, place % 6, 0), 1);
            due("isWellIf(.., 3)", x.isWellIf(place / 6, place % 6, 3), 0);
        }
        x.tell(5, 5, 1);
        due("isWellIf(5, 5, 1) as it is told", x.isWellIf(5, 5, 1), 0);
        due("isWellIf(5, 5, 2) mends it", x.isWellIf(5, 5, 2), 1);
        due("isWellIf(5, 5, 0) mends it", x.isWellIf(5, 5, 0), 1);
        due("isWellIf(5, 4, 0) does not", x.isWellIf(5, 4, 0), 0);
        due("isWellIf(5, 5, 5)", x.isWellIf(5, 5, 5), BAD_VALUE);
        x = begun(6, 6, 13);
        for (int number = 0; number < 13; number++) {
            due("isWellIf(5, 5, " + number + ") of nothing", x.isWellIf(5, 5, number), 1);
        }
    }

    private static void isWellIfNamesItsErrorsInOrder() {
        about(13, "NO_SUCH and BAD_VALUE as for tell()");
        OneRankGrid x = gridOf(7, "11./12.");
        for (int number : new int[] {-1, 0, 1, 6, 7, LOW, HIGH}) {
            due("isWellIf(2, 0, " + number + ")", x.isWellIf(2, 0, number), NO_SUCH);
            due("isWellIf(0, 3, " + number + ")", x.isWellIf(0, 3, number), NO_SUCH);
            due("isWellIf(-1, 0, " + number + ")", x.isWellIf(-1, 0, number), NO_SUCH);
            due("isWellIf(0, -1, " + number + ")", x.isWellIf(0, -1, number), NO_SUCH);
            due("isWellIf(LOW, HIGH, " + number + ")", x.isWellIf(LOW, HIGH, number), NO_SUCH);
        }
        due("isWellIf(1, 2, 7) where it is not well", x.isWellIf(1, 2, 7), BAD_VALUE);
        due("isWellIf(1, 2, 1) where it is not well", x.isWellIf(1, 2, 1), 0);
    }
}
