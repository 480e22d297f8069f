/** The boundaries that the document names for texts: put, wipe, fault and read. */
public final class TextBoundaries extends Checks {
    private static final int PAD = 50;

    public static void main(String[] args) {
        putTakesOneToEightCharacters();
        putOfNoCharacter();
        putTakesTheseCodesAndNoOther();
        putRefusesWhatStandsAboveTheEnd();
        putFillsThePad();
        putOfTooManyChangesNothing();
        putNamesItsErrorsInOrder();
        wipeOfAnEmptyPadAndAFullOne();
        faultOfAnEmptyPad();
        faultOfEachSize();
        faultOfTheBeginningsOfATextWithoutFault();
        faultOfEachSign();
        faultOfASlash();
        faultOfASignBehindTooMany();
        faultOfASeventhRow();
        faultIsTheFirstOne();
        faultOfEachCharacterBehindEachBeginning();
        faultOfAFullPad();
        faultDoesNotLookAtTheModulus();
        readOfAnEmptyPad();
        readOfEachSize();
        readOfEachNumber();
        readOfNothingToldAndOfAll();
        readNamesItsErrorsInOrder();
        readThatIsRefusedChangesNothing();
        readLeavesTheModulus();
        end();
    }

    private static OneRankGrid padOf(String text) {
        OneRankGrid x = new OneRankGrid();
        write(x, text);
        due("count(10) of " + text, x.count(10), text.length());
        return x;
    }

    private static void dueFault(String text, int fault) {
        due("fault() of " + text, padOf(text).fault(), fault);
    }

    // ---- promise 16

    private static void putTakesOneToEightCharacters() {
        about(16, "1 to 8 characters: its lowest 8 bits are the last character, the next 8 bits the one before");
        String text = "12345678";
        for (int size = 1; size <= 8; size++) {
            OneRankGrid x = new OneRankGrid();
            due("put of " + size, x.put(word(text.substring(0, size))), size);
            due("put of " + size + " again", x.put(word(text.substring(0, size))), 2 * size);
            due("count(10)", x.count(10), 2 * size);
        }
        OneRankGrid x = new OneRankGrid();
        x.begin(2, 2, 11);
        x.put(0x3132333435362F37L);
        x.put(0x3839616161L);
        due("read() of what was put in two", x.read(), 12);
        dueGrid("read()", x, "123456/789aaa");
        for (int i = 0; i < 5; i++) {
            x.put("12/34".charAt(i));
        }
        due("read() of what was put one by one", x.read(), 4);
        dueGrid("read()", x, "12/34");
    }

    private static void putOfNoCharacter() {
        about(16, "BAD_VALUE if there is no character");
        OneRankGrid x = new OneRankGrid();
        due("put(0)", x.put(0), BAD_VALUE);
        due("count(10)", x.count(10), 0);
        x = padOf("1".repeat(PAD));
        due("put(0) on a full pad", x.put(0), BAD_VALUE);
    }

    private static void putTakesTheseCodesAndNoOther() {
        about(16, "BAD_VALUE if a code is not 33 to 126");
        for (int size = 1; size <= 8; size++) {
            for (int place = 0; place < size; place++) {
                long others = word("1".repeat(size)) & ~(255L << 8 * place);
                for (int code = 0; code < 256; code++) {
                    // A code 0 in the first place of the word only makes it shorter, unless it is the only one.
                    boolean isShorter = code == 0 && place == size - 1 && size > 1;
                    int want = isShorter ? size - 1 : code >= 33 && code <= 126 ? size : BAD_VALUE;
                    OneRankGrid x = new OneRankGrid();
                    due("put() of " + size + " with the code " + code + " in the place " + place,
                            x.put(others | (long) code << 8 * place), want);
                    due("count(10)", x.count(10), Math.max(want, 0));
                }
            }
        }
        OneRankGrid x = new OneRankGrid();
        for (long bad : new long[] {-1, -49, Long.MIN_VALUE, Long.MAX_VALUE, 49L - (1L << 56)}) {
            due("put(" + bad + ")", x.put(bad), BAD_VALUE);
        }
    }

    private static void putRefusesWhatStandsAboveTheEnd() {
        about(16, "BAD_VALUE if a bit above 8 bits that are 0 is not 0");
        for (int end = 0; end < 7; end++) {
            // 8 bits that are 0 stand above so many characters.
            long below = word("1".repeat(end));
            for (int bit = 8 * end + 8; bit < 64; bit++) {
                OneRankGrid x = new OneRankGrid();
                due("put() with the bit " + bit + " above " + end + " characters", x.put(below | 1L << bit), BAD_VALUE);
                due("put() with characters above the end", x.put(below | 49L << bit), BAD_VALUE);
                due("count(10)", x.count(10), 0);
            }
        }
    }

    private static void putFillsThePad() {
        about(16, "TOO_MANY if the pad would be longer than 50");
        OneRankGrid x = new OneRankGrid();
        for (int length = 1; length <= PAD; length++) {
            due("put of one", x.put('1'), length);
        }
        due("put of one more", x.put('1'), TOO_MANY);
        for (int size = 1; size <= 8; size++) {
            for (int length = PAD - 9; length <= PAD; length++) {
                x = padOf(".".repeat(length));
                int then = length + size;
                due("put of " + size + " on " + length, x.put(word("1".repeat(size))), then <= PAD ? then : TOO_MANY);
                due("count(10)", x.count(10), then <= PAD ? then : length);
            }
        }
    }

    private static void putOfTooManyChangesNothing() {
        about(16, "a call that returns an error changes nothing");
        // The pad's text has no fault, and would have one if one of the characters came behind it.
        OneRankGrid x = padOf("123456/".repeat(6).substring(0, 41));
        due("put of nine behind 41", x.put(word("11111111")), 49);
        due("put of two behind 49", x.put(word("22")), TOO_MANY);
        due("put of one behind 49", x.put('3'), 50);
        due("fault()", x.fault(), 41);
        x = padOf("12");
        for (int i = 0; i < 6; i++) {
            x.put(word("/3") << 48 | 0x20L);
            x.put(0);
            x.put(word("34") << 8);
        }
        due("put of what was left", x.put(word("/3.")), 5);
        due("read()", x.read(), 3);
        dueGrid("put() that was refused", x, "12/3.");
    }

    private static void putNamesItsErrorsInOrder() {
        about(16, "BAD_VALUE ahead of TOO_MANY");
        OneRankGrid x = padOf("1".repeat(PAD));
        for (long bad : new long[] {0, 32, 127, 0x3100, 0x310031, -1, 0x3131313131313120L, 0x2031313131313131L}) {
            due("put(" + bad + ") on a full pad", x.put(bad), BAD_VALUE);
        }
        due("put(33) on a full pad", x.put(33), TOO_MANY);
        due("put of eight on a full pad", x.put(word("~~~~~~~~")), TOO_MANY);
        due("count(10)", x.count(10), PAD);
    }

    // ---- promise 17

    private static void wipeOfAnEmptyPadAndAFullOne() {
        about(17, "empties the pad, and returns the length that it had");
        for (int length = 0; length <= PAD; length++) {
            OneRankGrid x = padOf("1".repeat(length));
            due("wipe()", x.wipe(), length);
            due("count(10) after wipe()", x.count(10), 0);
            due("fault() after wipe()", x.fault(), 0);
            due("wipe() again", x.wipe(), 0);
            due("read() after wipe()", x.read(), BAD_TEXT);
            due("put() after wipe()", x.put(word("12/34")), 5);
            due("read()", x.read(), 4);
            dueGrid("read()", x, "12/34");
        }
        OneRankGrid x = padOf("1".repeat(PAD));
        x.wipe();
        write(x, "2".repeat(PAD));
        due("count(10) when it is full again", x.count(10), PAD);
    }

    // ---- promise 18

    private static void faultOfAnEmptyPad() {
        about(18, "if the text ends too early (also if it is empty), it is the length of the text");
        OneRankGrid x = new OneRankGrid();
        due("fault() of a new object", x.fault(), 0);
        x.put(word("12/34"));
        due("fault()", x.fault(), NONE);
        x.read();
        due("fault() when read() has emptied the pad", x.fault(), 0);
    }

    private static void faultOfEachSize() {
        about(18, "NONE if there is none: 2 to 6 rows of 2 to 6 signs");
        for (int rows = 1; rows <= 8; rows++) {
            for (int columns = 1; columns <= 8 && (columns + 1) * rows - 1 <= PAD; columns++) {
                String text = allOf('1', rows, columns);
                int want = NONE;
                if (columns == 1) {
                    want = 1;
                } else if (columns > 6) {
                    want = 6;
                } else if (rows == 1) {
                    want = columns;
                } else if (rows > 6) {
                    want = 6 * (columns + 1) - 1;
                }
                dueFault(text, want);
            }
        }
    }

    private static void faultOfTheBeginningsOfATextWithoutFault() {
        about(18, "if there is none and the text ends too early, it is the length of the text");
        for (int columns = 2; columns <= 6; columns++) {
            String text = allOf('4', 6, columns);
            for (int length = 0; length <= text.length(); length++) {
                boolean isWhole = length % (columns + 1) == columns && length > columns;
                dueFault(text.substring(0, length), isWhole ? NONE : length);
            }
        }
    }

    private static void faultOfEachSign() {
        about(18, "a sign is \".\", a digit from 1 to 9, or a letter from a to c");
        for (char sign = 33; sign <= 126; sign++) {
            boolean isSign = sign == '.' || sign >= '1' && sign <= '9' || sign >= 'a' && sign <= 'c';
            String text = "12.4/567./89ab";
            for (int place = 0; place < text.length(); place++) {
                if (place % 5 != 4) {
                    String changed = text.substring(0, place) + sign + text.substring(place + 1);
                    // There a "/" ends the first row, and what follows is too short.
                    boolean isSlash = sign == '/' && (place == 2 || place == 3);
                    int want = isSign ? NONE : isSlash ? 4 : place;
                    dueFault(changed, want);
                }
            }
        }
    }

    private static void faultOfASlash() {
        about(18, "a \"/\" behind too few signs, or behind unlike many as in the first row");
        dueFault("/", 0);
        dueFault("1/", 1);
        dueFault("11/", 3);
        dueFault("//", 0);
        dueFault("1/1/1", 1);
        for (int columns = 2; columns <= 6; columns++) {
            for (int whole = 1; whole <= 5; whole++) {
                for (int signs = 0; signs < columns; signs++) {
                    String text = (".".repeat(columns) + "/").repeat(whole) + ".".repeat(signs);
                    dueFault(text, text.length());
                    dueFault(text + "/", text.length());
                    dueFault(text + "/..", text.length());
                }
            }
        }
    }

    private static void faultOfASignBehindTooMany() {
        about(18, "a sign behind too many");
        for (int columns = 2; columns <= 6; columns++) {
            for (int whole = 1; whole <= 5; whole++) {
                String text = (".".repeat(columns) + "/").repeat(whole) + ".".repeat(columns);
                dueFault(text, NONE);
                dueFault(text + "1", text.length());
                dueFault(text + ".", text.length());
                dueFault(text + "1/", text.length());
            }
        }
        dueFault("......", 6);
        dueFault("......1", 6);
        dueFault("......./", 6);
    }

    private static void faultOfASeventhRow() {
        about(18, "a \"/\" behind the sixth row");
        for (int columns = 2; columns <= 6; columns++) {
            String text = allOf('c', 6, columns);
            dueFault(text, NONE);
            dueFault(text + "/", text.length());
            dueFault(text + "/cc", text.length());
            String five = allOf('c', 5, columns);
            dueFault(five + "/", five.length() + 1);
            dueFault(five + "//", five.length() + 1);
        }
    }

    private static void faultIsTheFirstOne() {
        about(18, "the index of the first character that cannot stand at its place");
        dueFault("x1/x", 0);
        dueFault("1x/x", 1);
        dueFault("12x/", 2);
        dueFault("12/x", 3);
        dueFault("12/3x/", 4);
        dueFault("12/3/x", 4);
        dueFault("12/345x", 5);
        dueFault("12/34x5", 5);
        dueFault("12/34//", 6);
        dueFault("1234567x", 6);
    }

    /** Every character that may stand in the pad, behind every beginning of a text of six rows, of every width. */
    private static void faultOfEachCharacterBehindEachBeginning() {
        about(18, "when the text is read from left to right");
        for (int columns = 2; columns <= 6; columns++) {
            String text = allOf('3', 6, columns);
            for (int length = 0; length <= text.length(); length++) {
                int row = length / (columns + 1);
                int signs = length % (columns + 1);
                for (char code = 33; code <= 126; code++) {
                    boolean isSlash = code == '/';
                    boolean fits = isSlash
                            ? row == 0 && signs >= 2 || row < 5 && signs == columns
                            : SIGNS.indexOf(code) >= 0 && signs < (row == 0 ? 6 : columns);
                    boolean isWhole = !isSlash && row > 0 && signs + 1 == columns;
                    OneRankGrid x = new OneRankGrid();
                    write(x, text.substring(0, length) + code);
                    due("fault() of " + text.substring(0, length) + code, x.fault(),
                            !fits ? length : isWhole ? NONE : length + 1);
                }
            }
        }
    }

    private static void faultOfAFullPad() {
        about(18, "the pad is a text of at most 50 characters");
        dueFault("1".repeat(PAD), 6);
        dueFault("/".repeat(PAD), 0);
        for (int columns = 2; columns <= 6; columns++) {
            String text = allOf('1', 6, columns);
            dueFault(text + "/".repeat(PAD - text.length()), text.length());
            dueFault(text + "1".repeat(PAD - text.length()), text.length());
        }
        OneRankGrid x = padOf("1".repeat(PAD));
        due("read() of a full pad", x.read(), BAD_TEXT);
        due("count(10)", x.count(10), PAD);
    }

    private static void faultDoesNotLookAtTheModulus() {
        about(18, "a digit from 1 to 9, or a letter from a to c (10 to 12)");
        for (int modulus : MODULI) {
            OneRankGrid x = begun(2, 2, modulus);
            x.put(word("9a/bc"));
            due("fault() modulo " + modulus, x.fault(), NONE);
        }
    }

    // ---- promise 5

    private static void readOfAnEmptyPad() {
        about(5, "BAD_TEXT if the pad has a fault");
        OneRankGrid x = new OneRankGrid();
        due("read() of an empty pad", x.read(), BAD_TEXT);
        due("count(11)", x.count(11), 0);
        x.put(word("12/34"));
        due("read()", x.read(), 4);
        due("read() again, as the pad is empty", x.read(), BAD_TEXT);
        due("count(11)", x.count(11), 1);
        dueGrid("read() that was refused", x, "12/34");
    }

    private static void readOfEachSize() {
        about(5, "begins anew with the grid of the pad, and empties the pad");
        String rows = "1.3456/65.321/.2345./12345./6.4321/5.5.5.";
        for (int height = 2; height <= 6; height++) {
            for (int width = 2; width <= 6; width++) {
                StringBuilder text = new StringBuilder();
                for (int row = 0; row < height; row++) {
                    text.append(row > 0 ? "/" : "").append(rows, 7 * row, 7 * row + width);
                }
                OneRankGrid x = gridOf(7, allOf('2', 6, 6));
                write(x, text.toString());
                due("read() of " + text, x.read(), text.toString().replaceAll("[./]", "").length());
                dueGrid("read()", x, text.toString());
                due("count(2), as the modulus stays", x.count(2), 7);
                due("count(10)", x.count(10), 0);
                due("count(11)", x.count(11), 3);
                due("undo()", x.undo(), 2);
                dueGrid("undo()", x, allOf('2', 6, 6));
                due("count(10) after undo()", x.count(10), 0);
            }
        }
    }

    private static void readOfEachNumber() {
        about(5, "BAD_VALUE if some number is not less than the modulus");
        for (int modulus : MODULI) {
            for (int number = 1; number <= 12; number++) {
                String text = "1.4/.2./3.1";
                for (int place = 0; place < text.length(); place++) {
                    if (place % 4 != 3) {
                        String changed = text.substring(0, place) + signOf(number) + text.substring(place + 1);
                        OneRankGrid x = begun(2, 2, modulus);
                        write(x, changed);
                        int told = changed.replaceAll("[./]", "").length();
                        boolean isTaken = number < modulus;
                        due("read() of " + changed + " modulo " + modulus, x.read(), isTaken ? told : BAD_VALUE);
                        due("count(10)", x.count(10), isTaken ? 0 : changed.length());
                        dueGrid("read()", x, isTaken ? changed : "../..");
                    }
                }
            }
        }
    }

    private static void readOfNothingToldAndOfAll() {
        about(5, "returns how many entries are told");
        for (int rows = 2; rows <= 6; rows++) {
            for (int columns = 2; columns <= 6; columns++) {
                OneRankGrid x = new OneRankGrid();
                write(x, allOf('.', rows, columns));
                due("read() of nothing told", x.read(), 0);
                dueGrid("read() of nothing told", x, allOf('.', rows, columns));
                write(x, allOf('6', rows, columns));
                due("read() of all told", x.read(), rows * columns);
                dueGrid("read() of all told", x, allOf('6', rows, columns));
                due("count(11)", x.count(11), 2);
            }
        }
    }

    private static void readNamesItsErrorsInOrder() {
        about(5, "BAD_TEXT ahead of BAD_VALUE");
        for (String text : new String[] {"c", "c/", "cc/c", "cc/cc/", "cc/ccc", "cccccc", "ccccccc", "cc/cC", "77/7"}) {
            OneRankGrid x = padOf(text);
            due("read() of " + text, x.read(), BAD_TEXT);
            due("count(10)", x.count(10), text.length());
        }
        due("read() of 77/77", padOf("77/77").read(), BAD_VALUE);
        due("read() of ../.7", padOf("../.7").read(), BAD_VALUE);
        due("read() of 66/66", padOf("66/66").read(), 4);
    }

    private static void readThatIsRefusedChangesNothing() {
        about(5, "a call that returns an error changes nothing");
        OneRankGrid x = gridOf(7, "123/4.6");
        x.put(word("1c/.2"));
        due("read()", x.read(), BAD_VALUE);
        dueGrid("read() that was refused", x, "123/4.6");
        due("count(10)", x.count(10), 5);
        due("count(11)", x.count(11), 2);
        x.begin(6, 6, 13);
        due("read() when the modulus is larger", x.read(), 3);
        dueGrid("read()", x, "1c/.2");
        x.put(word("1c/."));
        due("read()", x.read(), BAD_TEXT);
        dueGrid("read() that was refused", x, "1c/.2");
        due("count(11)", x.count(11), 4);
        due("put() of what was missing", x.put(word("3")), 5);
        due("read()", x.read(), 3);
        dueGrid("read()", x, "1c/.3");
    }

    private static void readLeavesTheModulus() {
        about(5, "the modulus stays");
        for (int modulus : MODULI) {
            OneRankGrid x = begun(6, 6, modulus);
            x.put(word("12/34"));
            due("read()", x.read(), 4);
            due("count(2)", x.count(2), modulus);
            due("tell() of the modulus less 1", x.tell(0, 0, modulus - 1), 1);
            due("tell() of the modulus", x.tell(0, 0, modulus), BAD_VALUE);
        }
    }
}
