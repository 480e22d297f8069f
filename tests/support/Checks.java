/** What the tests have in common: answers that are due, and grids that are told as texts. */
abstract class Checks {
    static final int NO_SUCH = -1;
    static final int BAD_VALUE = -2;
    static final int BAD_TEXT = -3;
    static final int TOO_MANY = -4;
    static final int NOT_POSSIBLE = -5;
    static final int NONE = -6;

    static final int LOW = Integer.MIN_VALUE;
    static final int HIGH = Integer.MAX_VALUE;
    static final int[] MODULI = {5, 7, 11, 13};
    /** The sign of each number. */
    static final String SIGNS = ".123456789abc";

    private static final int SHOWN = 40;

    private static String subject = "";
    private static int answers = 0;
    private static int wrong = 0;

    static void about(String text) {
        subject = text;
    }

    /** What is checked from here on is about this sentence of a promise. */
    static void about(int promise, String sentence) {
        subject = "promise " + promise + (sentence.isEmpty() ? "" : " (" + sentence + ")");
    }

    static void about(int promise) {
        about(promise, "");
    }

    static void due(String call, long got, long want) {
        answers++;
        if (got != want) {
            complain(call + " answered " + got + ", due is " + want);
        }
    }

    static void dueText(String what, String got, String want) {
        answers++;
        if (!got.equals(want)) {
            complain(what + " is " + got + ", due is " + want);
        }
    }

    /** Only the first ones are shown, as one fault mostly spoils many answers. */
    private static void complain(String text) {
        wrong++;
        if (wrong <= SHOWN) {
            System.out.println(subject + ": " + text);
        }
    }

    /** To be called at the end of each test. */
    static void end() {
        System.out.println(wrong == 0 ? "all " + answers + " answers are as due" : wrong + " answers are not as due");
        if (wrong != 0) {
            System.exit(1);
        }
    }

    // ---- texts and grids

    static long word(String text) {
        long characters = 0;
        for (int i = 0; i < text.length(); i++) {
            characters = characters << 8 | text.charAt(i);
        }
        return characters;
    }

    static void write(OneRankGrid x, String text) {
        for (int i = 0; i < text.length(); i += 8) {
            x.put(word(text.substring(i, Math.min(i + 8, text.length()))));
        }
    }

    /** A new object with the grid of a text; its history holds two changes. */
    static OneRankGrid gridOf(int modulus, String text) {
        OneRankGrid x = new OneRankGrid();
        x.begin(2, 2, modulus);
        write(x, text);
        due("read() of " + text, x.read() >= 0 ? 1 : 0, 1);
        return x;
    }

    /** A new object with a grid of which nothing is told; its history holds one change. */
    static OneRankGrid begun(int rows, int columns, int modulus) {
        OneRankGrid x = new OneRankGrid();
        x.begin(rows, columns, modulus);
        return x;
    }

    /** The text of a grid whose entries all have the same sign. */
    static String allOf(char sign, int rows, int columns) {
        String row = String.valueOf(sign).repeat(columns);
        return (row + "/").repeat(rows - 1) + row;
    }

    static char signOf(int number) {
        return number >= 0 && number < SIGNS.length() ? SIGNS.charAt(number) : '?';
    }

    /** The text of the object's grid, by its entries. */
    static String textOf(OneRankGrid x) {
        StringBuilder text = new StringBuilder();
        int rows = x.count(0);
        int columns = x.count(1);
        for (int row = 0; row < rows; row++) {
            for (int column = 0; column < columns; column++) {
                text.append(signOf(x.entry(row, column, 0)));
            }
            text.append(row + 1 < rows ? "/" : "");
        }
        return text.toString();
    }

    static void dueGrid(String after, OneRankGrid x, String text) {
        dueText("the grid after " + after, textOf(x), text);
    }

    /** The number that gives the dividend with the divisor. */
    static int quotient(int dividend, int divisor, int modulus) {
        for (int number = 1; number < modulus; number++) {
            if (number * divisor % modulus == dividend % modulus) {
                return number;
            }
        }
        return 0;
    }

    /** The numbers from 0 on in the order with this number: of six, there are 720 orders. */
    static int[] order(int size, int number) {
        int[] order = new int[size];
        int rest = number;
        for (int i = 0; i < size; i++) {
            order[i] = i;
        }
        for (int i = 0; i < size; i++) {
            int j = i + rest % (size - i);
            rest /= size - i;
            int kept = order[i];
            order[i] = order[j];
            order[j] = kept;
        }
        return order;
    }
}
