/** For each promise of the document: ordinary inputs, the edges that it names, and wrong inputs. */
public final class PromiseTests extends Checks {
    public static void main(String[] args) {
        newObject();
        begin();
        tell();
        tellAll();
        read();
        entry();
        part();
        count();
        rank();
        cycles();
        wrong();
        completions();
        completed();
        isWellIf();
        spoilers();
        bestEntry();
        put();
        wipe();
        fault();
        undo();
        saveAndRestore();
        fullGridsEndQuickly();
        end();
    }

    // ---- changes

    private static void newObject() {
        about(1);
        OneRankGrid x = new OneRankGrid();
        dueGrid("new", x, ".../.../...");
        due("count(2)", x.count(2), 7);
        due("count(3)", x.count(3), 0);
        due("count(10)", x.count(10), 0);
        due("count(11)", x.count(11), 0);
        due("restore(0)", x.restore(0), -5);
        due("restore(1)", x.restore(1), -5);
        due("undo()", x.undo(), -5);
        due("fault()", x.fault(), 0);
    }

    private static void begin() {
        about(2);
        OneRankGrid x = new OneRankGrid();
        due("begin(2, 6, 5)", x.begin(2, 6, 5), 0);
        dueGrid("begin(2, 6, 5)", x, "....../......");
        due("count(2)", x.count(2), 5);
        x.tell(0, 5, 4);
        x.tell(1, 5, 1);
        due("begin(6, 2, 13)", x.begin(6, 2, 13), 2);
        dueGrid("begin(6, 2, 13)", x, "../../../../../..");
        due("count(2)", x.count(2), 13);
        due("begin(2, 2, 7)", x.begin(2, 2, 7), 0);
        due("begin(6, 6, 11)", x.begin(6, 6, 11), 0);
        due("count(2)", x.count(2), 11);
        due("count(11)", x.count(11), 6);
        due("begin(6, 6, 11) again", x.begin(6, 6, 11), 0);
        beginRefuses();
        begunGridIsEmpty();
    }

    private static void beginRefuses() {
        OneRankGrid x = gridOf(5, "12/3.");
        for (int bad : new int[] {1, 7, 0, -2, LOW, HIGH}) {
            due("begin(" + bad + ", 3, 7)", x.begin(bad, 3, 7), -2);
            due("begin(3, " + bad + ", 7)", x.begin(3, bad, 7), -2);
        }
        for (int bad : new int[] {0, 1, 2, 3, 4, 6, 8, 9, 10, 12, 14, 17, -5, -7, LOW, HIGH}) {
            due("begin(3, 3, " + bad + ")", x.begin(3, 3, bad), -2);
        }
        dueGrid("a begin() that was refused", x, "12/3.");
        due("count(2)", x.count(2), 5);
        due("count(11)", x.count(11), 2);
    }

    private static void begunGridIsEmpty() {
        OneRankGrid x = gridOf(13, "123456/123456/123456/123456/123456/123456");
        write(x, "12/");
        due("begin(2, 2, 13)", x.begin(2, 2, 13), 36);
        due("begin(6, 6, 13)", x.begin(6, 6, 13), 0);
        due("count(3)", x.count(3), 0);
        due("count(10), as the pad stays", x.count(10), 3);
    }

    private static void tell() {
        about(3);
        OneRankGrid x = new OneRankGrid();
        due("tell(0, 0, 6)", x.tell(0, 0, 6), 0);
        due("tell(0, 0, 1)", x.tell(0, 0, 1), 6);
        due("tell(2, 1, 3)", x.tell(2, 1, 3), 0);
        due("tell(1, 2, 5)", x.tell(1, 2, 5), 0);
        dueGrid("tell()", x, "1../..5/.3.");
        due("tell(0, 0, 0)", x.tell(0, 0, 0), 1);
        due("tell(0, 0, 0)", x.tell(0, 0, 0), 0);
        dueGrid("tell() of 0", x, ".../..5/.3.");
        due("count(11), also where nothing was different", x.count(11), 6);

        x = gridOf(11, "12/34/5.");
        for (int bad : new int[] {-1, 3, 6, LOW, HIGH}) {
            due("tell(" + bad + ", 0, 1)", x.tell(bad, 0, 1), -1);
            due("tell(" + bad + ", 0, 99)", x.tell(bad, 0, 99), -1);
        }
        for (int bad : new int[] {-1, 2, 6, LOW, HIGH}) {
            due("tell(0, " + bad + ", 1)", x.tell(0, bad, 1), -1);
            due("tell(0, " + bad + ", -1)", x.tell(0, bad, -1), -1);
        }
        for (int bad : new int[] {-1, 11, 12, LOW, HIGH}) {
            due("tell(2, 1, " + bad + ")", x.tell(2, 1, bad), -2);
        }
        dueGrid("a tell() that was refused", x, "12/34/5.");
        due("count(11)", x.count(11), 2);
        due("tell(2, 1, 10)", x.tell(2, 1, 10), 0);
        due("tell(2, 1, 1)", x.tell(2, 1, 1), 10);
    }

    private static void tellAll() {
        about(4);
        OneRankGrid x = gridOf(7, "23./4../...");
        due("tellAll()", x.tellAll(), 1);
        dueGrid("tellAll()", x, "23./46./...");
        due("tellAll() again", x.tellAll(), 0);
        due("count(11)", x.count(11), 4);
        due("undo()", x.undo(), 3);
        due("undo()", x.undo(), 2);
        dueGrid("undo()", x, "23./4../...");

        x = gridOf(5, "1.2/.3./4..");
        due("tellAll() in one of several parts", x.tellAll(), 1);
        dueGrid("tellAll()", x, "1.2/.3./4.3");

        x = gridOf(7, ".3/46");
        due("tellAll() of the first place", x.tellAll(), 1);
        dueGrid("tellAll()", x, "23/46");
        x = gridOf(7, "23/4.");
        due("tellAll() of the last place", x.tellAll(), 1);
        dueGrid("tellAll()", x, "23/46");

        x = gridOf(7, "23./45./..1");
        due("tellAll() where it is not well", x.tellAll(), -5);
        dueGrid("tellAll() that was refused", x, "23./45./..1");
        due("count(11)", x.count(11), 2);
        due("tellAll() of nothing", new OneRankGrid().tellAll(), 0);
    }

    private static void read() {
        about(5);
        OneRankGrid x = new OneRankGrid();
        due("read() of nothing", x.read(), -3);
        write(x, "12.456/.23456");
        due("read()", x.read(), 10);
        dueGrid("read()", x, "12.456/.23456");
        due("count(2)", x.count(2), 7);
        due("count(10)", x.count(10), 0);
        due("count(11)", x.count(11), 1);
        due("undo()", x.undo(), 0);
        dueGrid("undo()", x, ".../.../...");
        due("count(10), as undo leaves the pad", x.count(10), 0);

        write(x, "17/1.");
        due("read() of 7 with the modulus 7", x.read(), -2);
        due("count(10) as nothing changed", x.count(10), 5);
        due("count(11)", x.count(11), 0);
        x.wipe();
        write(x, "71/1.");
        due("read() of 7 as the first one", x.read(), -2);
        x.wipe();
        write(x, "11/17");
        due("read() of 7 as the last one", x.read(), -2);
        write(x, "/1");
        due("read() of a fault, ahead of the number", x.read(), -3);
        due("count(10) as nothing changed", x.count(10), 7);
        dueGrid("read() that was refused", x, ".../.../...");
        x.begin(2, 2, 11);
        x.wipe();
        write(x, "9a/..");
        due("read() of a with the modulus 11", x.read(), 2);
        dueGrid("read()", x, "9a/..");
        write(x, "9b/..");
        due("read() of b with the modulus 11", x.read(), -2);
        x.begin(2, 2, 13);
        due("read() of b with the modulus 13", x.read(), 2);
        write(x, "c./../../../../..");
        due("read() of six rows", x.read(), 1);
        dueGrid("read()", x, "c./../../../../..");
        write(x, "../..");
        due("read() of nothing told", x.read(), 0);
        dueGrid("read()", x, "../..");
    }

    // ---- what there is

    private static void entry() {
        about(6);
        OneRankGrid x = gridOf(7, "23./4../..1");
        due("entry(0, 1, 0)", x.entry(0, 1, 0), 3);
        due("entry(0, 2, 0)", x.entry(0, 2, 0), 0);
        due("entry(1, 1, 1)", x.entry(1, 1, 1), 6);
        due("entry(0, 0, 1) of a told one", x.entry(0, 0, 1), 2);
        due("entry(2, 2, 1) of a told one", x.entry(2, 2, 1), 1);
        due("entry(0, 2, 1) over two parts", x.entry(0, 2, 1), -6);
        due("entry(0, 0, 2)", x.entry(0, 0, 2), -6);
        due("entry(1, 1, 2) of one not told", x.entry(1, 1, 2), 6);
        due("entry(1, 1, 3)", x.entry(1, 1, 3), 0);

        x = gridOf(7, "23./45./...");
        due("entry(0, 0, 1) where it is not well", x.entry(0, 0, 1), -6);
        due("entry(1, 1, 2)", x.entry(1, 1, 2), 6);
        due("entry(0, 2, 2) where it is not well", x.entry(0, 2, 2), -6);
        due("entry(1, 1, 0) after that", x.entry(1, 1, 0), 5);
        due("entry(1, 1, 3)", x.entry(1, 1, 3), 1);

        x = gridOf(13, "111./1111/11.1");
        due("entry(0, 0, 3)", x.entry(0, 0, 3), 3);
        due("entry(0, 3, 3) of one not told", x.entry(0, 3, 3), 0);
        due("entry(1, 3, 3)", x.entry(1, 3, 3), 2);
        due("entry(1, 0, 3)", x.entry(1, 0, 3), 4);
        due("entry(0, 3, 1)", x.entry(0, 3, 1), 1);

        for (int bad : new int[] {-1, 3, 6, LOW, HIGH}) {
            due("entry(" + bad + ", 0, 0)", x.entry(bad, 0, 0), -1);
            due("entry(" + bad + ", 0, 9)", x.entry(bad, 0, 9), -1);
        }
        for (int bad : new int[] {-1, 4, 6, LOW, HIGH}) {
            due("entry(0, " + bad + ", 0)", x.entry(0, bad, 0), -1);
            due("entry(0, 0, " + bad + ")", x.entry(0, 0, bad), -2);
        }
        due("count(11), as nothing is a change", x.count(11), 2);
    }

    private static void part() {
        about(7);
        // Row 0 has nothing; rows 1 and 3 are joined by column 2; row 2 has columns 1 and 3; column 0 and 4 are alone.
        OneRankGrid x = gridOf(11, "...../..5../.2.7./..9..");
        int[][] parts = {{1, 0, 0}, {10, 4, 2}, {4, 10, 2}, {0, 1, 0}, {0, 16, 0}};
        for (int p = 0; p < parts.length; p++) {
            for (int what = 0; what < 3; what++) {
                due("part(" + p + ", " + what + ")", x.part(p, what), parts[p][what]);
            }
            due("part(" + p + ", 3)", x.part(p, 3), -2);
            due("part(" + p + ", -1)", x.part(p, -1), -2);
        }
        for (int bad : new int[] {5, -1, 6, LOW, HIGH}) {
            due("part(" + bad + ", 0)", x.part(bad, 0), -1);
            due("part(" + bad + ", 3)", x.part(bad, 3), -1);
        }
        x.tell(0, 0, 1);
        x.tell(3, 0, 1);
        due("part(0, 0) when rows are joined", x.part(0, 0), 11);
        due("part(0, 1)", x.part(0, 1), 5);
        due("part(0, 2)", x.part(0, 2), 4);
        due("part(1, 0)", x.part(1, 0), 4);
        due("part(2, 1)", x.part(2, 1), 16);
        due("part(3, 0)", x.part(3, 0), -1);

        x.begin(6, 6, 5);
        due("part(11, 1) of twelve parts", x.part(11, 1), 32);
        due("part(5, 0)", x.part(5, 0), 32);
        due("part(12, 0)", x.part(12, 0), -1);
    }

    private static void count() {
        about(8);
        OneRankGrid x = gridOf(7, "123./246./11../....");
        write(x, "12/");
        int[] counts = {4, 4, 7, 8, 3, 0, 9, 5, 2, 2, 3, 2};
        for (int what = 0; what < counts.length; what++) {
            due("count(" + what + ")", x.count(what), counts[what]);
        }
        x.tell(2, 0, 0);
        due("count(5) when it is well", x.count(5), 1);
        due("count(7)", x.count(7), 3);
        due("count(8)", x.count(8), 0);
        due("count(9)", x.count(9), 1);
        for (int bad : new int[] {-1, 12, 13, LOW, HIGH}) {
            due("count(" + bad + ")", x.count(bad), -2);
        }
        due("count(7) of all", gridOf(5, "111111/111111/111111/111111/111111/111111").count(7), 225);
        due("count(6) of all", gridOf(5, "111111/111111/111111/111111/111111/111111").count(6), 36);
        due("count(8) where 1 * 4 is not 2 * 3", gridOf(5, "12/34").count(8), 1);
        due("count(8) where 1 * 3 is 2 * 4 modulo 5", gridOf(5, "12/43").count(8), 0);
    }

    private static void rank() {
        due("count(9) of nothing", new OneRankGrid().count(9), 0);
        due("count(9) of one entry", gridOf(5, "../.3").count(9), 1);
        due("count(9) of the first entry", gridOf(5, "3./..").count(9), 1);
        due("count(9) by a pivot that is further below, and a row that is there twice",
                gridOf(7, "1111/1123/1212/1212").count(9), 3);
        due("count(9)", gridOf(7, "12./.34/5.6").count(9), 1);
        due("count(9) of a regular grid", gridOf(7, "124/142/111").count(9), 3);
        due("count(9) where the third row is a sum", gridOf(7, "124/142/266").count(9), 2);
        due("count(9) by a pivot that is further below", gridOf(7, "112/113/121").count(9), 3);
        due("count(9) in columns that are not the first", gridOf(11, ".12/.34/1.1").count(9), 2);
        due("count(9) of six rows", gridOf(13, "c11111/1c1111/11c111/111c11/1111c1/11111c").count(9), 6);
        due("count(9) modulo 5", gridOf(5, "1111/1211/1131/1114").count(9), 4);
        due("count(9) of a wide grid", gridOf(5, "123412/241324").count(9), 1);
    }

    // ---- cycles

    private static void cycles() {
        about(9);
        OneRankGrid x = gridOf(13, "111111/111111/111111/111111/111111/111111");
        int[] all = {225, 2400, 16200, 51840, 43200};
        for (int i = 0; i < all.length; i++) {
            due("cycles(" + (4 + 2 * i) + ", 0)", x.cycles(4 + 2 * i, 0), all[i]);
            due("cycles(" + (4 + 2 * i) + ", 1)", x.cycles(4 + 2 * i, 1), 0);
        }
        // Each cycle that goes through the entry is wrong: in all of a length, as many as the entries it has, of 36.
        x.tell(3, 4, 2);
        for (int i = 0; i < all.length; i++) {
            int length = 4 + 2 * i;
            due("cycles(" + length + ", 1)", x.cycles(length, 1), all[i] * length / 36);
            due("cycles(" + length + ", 0)", x.cycles(length, 0), all[i]);
        }
        for (int bad : new int[] {5, 3, 2, 0, 14, 13, -4, LOW, HIGH}) {
            due("cycles(" + bad + ", 0)", x.cycles(bad, 0), -2);
        }
        for (int bad : new int[] {-1, 2, LOW, HIGH}) {
            due("cycles(4, " + bad + ")", x.cycles(4, bad), -2);
        }
        due("cycles(12, 0) of too few rows", gridOf(7, "111/111").cycles(12, 0), 0);
        due("cycles(4, 0) of 2 rows", gridOf(7, "111/111").cycles(4, 0), 3);
        x = gridOf(7, "12./.34/5.6");
        due("cycles(6, 0)", x.cycles(6, 0), 1);
        due("cycles(6, 1)", x.cycles(6, 1), 1);
        due("cycles(4, 0)", x.cycles(4, 0), 0);
        x = gridOf(7, "12./.34/3.2");
        due("cycles(6, 1) where 1 * 3 * 2 is 6, and 2 * 4 * 3 is 3", x.cycles(6, 1), 1);
        x = gridOf(7, "11./.11/1.1");
        due("cycles(6, 1) that is not wrong", x.cycles(6, 1), 0);
        due("cycles(4, 0) of nothing", new OneRankGrid().cycles(4, 0), 0);
    }

    private static void wrong() {
        about(10);
        OneRankGrid x = gridOf(7, "11./.11/2.1");
        due("wrong(0)", x.wrong(0), 6);
        due("wrong(1)", x.wrong(1), 7);
        due("wrong(2)", x.wrong(2), 7);
        due("wrong(3)", x.wrong(3), -2);
        due("wrong(-1)", x.wrong(-1), -2);
        due("wrong(MIN)", x.wrong(LOW), -2);
        due("wrong(MAX)", x.wrong(HIGH), -2);

        // Wrong ones of 4: the rows 0 and 3 with the columns 0 and 1, the rows 1 and 2 with the columns 1 and 3.
        x = gridOf(7, "11../.1.1/.2.1/21..");
        due("wrong(0)", x.wrong(0), 4);
        due("wrong(1): 6 is ahead of 9", x.wrong(1), 6);
        due("wrong(2)", x.wrong(2), 10);
        x = gridOf(7, "..11/..12/11../12..");
        due("wrong(1): the rows decide ahead of the columns", x.wrong(1), 3);
        due("wrong(2)", x.wrong(2), 12);
        // In the same rows the sets of the columns decide.
        x = gridOf(7, "1111/1222/....");
        due("wrong(1)", x.wrong(1), 3);
        due("wrong(2)", x.wrong(2), 3);
        x = gridOf(7, "1111/2212/....");
        due("wrong(2): 5 is ahead of 6 and 12", x.wrong(2), 5);
        x = gridOf(7, "1111/2221/....");
        due("wrong(2): 9 is ahead of 10 and 12", x.wrong(2), 9);
        x = gridOf(7, "11/22");
        due("wrong(0) where none is wrong", x.wrong(0), -6);
        due("wrong(2) where none is wrong", x.wrong(2), -6);
        due("wrong(3) ahead of none", x.wrong(3), -2);
        x.tell(1, 1, 3);
        due("wrong(0) as soon as one is wrong", x.wrong(0), 4);
        x = gridOf(13, "11..../.11.../..11../...11./....11/5....1");
        due("wrong(0) of the longest", x.wrong(0), 12);
        due("wrong(1)", x.wrong(1), 63);
        due("wrong(2)", x.wrong(2), 63);
        due("wrong(0) of nothing", new OneRankGrid().wrong(0), -6);
    }

    // ---- completions

    private static void completions() {
        about(11);
        due("completions() of nothing", new OneRankGrid().completions(), 7776);
        OneRankGrid x = new OneRankGrid();
        x.begin(6, 6, 13);
        due("completions() of the most", x.completions(), 743008370688L);
        due("completions() of one part", gridOf(11, "12/3.").completions(), 1);
        due("completions() of two parts", gridOf(11, "12./3../..4").completions(), 10);
        due("completions() of none", gridOf(11, "12./35./...").completions(), 0);
    }

    private static void completed() {
        about(12);
        // Parts: rows 0, 2 with column 1; row 1; column 0; column 2. The row 2 has 4 where the row 0 has 3: 4 / 3 is 5 modulo 11.
        OneRankGrid x = gridOf(11, ".3./.../.4.");
        due("completed(0, 0, 0)", x.completed(0, 0, 0), 1);
        due("completed(0, 0, 1)", x.completed(0, 0, 1), 3);
        due("completed(0, 2, 0)", x.completed(0, 2, 0), 5);
        due("completed(0, 1, 1)", x.completed(0, 1, 1), 3);
        // 123: the part 1 has the factor 4, the part 2 the factor 3, the part 3 the factor 2.
        due("completed(123, 0, 1)", x.completed(123, 0, 1), 3);
        due("completed(123, 2, 1)", x.completed(123, 2, 1), 4);
        due("completed(123, 1, 1): 4 * 3", x.completed(123, 1, 1), 1);
        due("completed(123, 0, 0): 1 / 3", x.completed(123, 0, 0), 4);
        due("completed(123, 1, 0): 4 / 3", x.completed(123, 1, 0), 5);
        due("completed(123, 2, 2): 5 / 2", x.completed(123, 2, 2), 8);
        due("completed(123, 1, 2): 4 / 2", x.completed(123, 1, 2), 2);
        due("completed(999, 1, 1): 10 * 3", x.completed(999, 1, 1), 8);
        for (long bad : new long[] {1000, -1, 1L << 32, Long.MIN_VALUE, Long.MAX_VALUE}) {
            due("completed(" + bad + ", 0, 0)", x.completed(bad, 0, 0), -1);
        }
        for (int bad : new int[] {-1, 3, 6, LOW, HIGH}) {
            due("completed(0, " + bad + ", 0)", x.completed(0, bad, 0), -1);
            due("completed(0, 0, " + bad + ")", x.completed(0, 0, bad), -1);
        }
        due("completed(0, 0, 0) where it is not well", gridOf(11, "12/35").completed(0, 0, 0), -1);
        x.begin(6, 6, 13);
        // The last part is the column 5; its factor is 12 less that of the part 0, 1.
        due("completed() of the last one", x.completed(743008370687L, 0, 5), 12);
        due("completed() of the last one", x.completed(743008370687L, 5, 5), 1);
        due("completed() behind the last one", x.completed(743008370688L, 0, 5), -1);
    }

    // ---- what if

    private static void isWellIf() {
        about(13);
        OneRankGrid x = gridOf(7, "23./45./...");
        due("isWellIf(1, 1, 6)", x.isWellIf(1, 1, 6), 1);
        due("isWellIf(1, 1, 5)", x.isWellIf(1, 1, 5), 0);
        due("isWellIf(1, 1, 0)", x.isWellIf(1, 1, 0), 1);
        due("isWellIf(2, 2, 0)", x.isWellIf(2, 2, 0), 0);
        due("isWellIf(2, 2, 3)", x.isWellIf(2, 2, 3), 0);
        dueGrid("isWellIf()", x, "23./45./...");
        due("count(11)", x.count(11), 2);
        due("count(5)", x.count(5), 0);
        for (int bad : new int[] {-1, 3, 6, LOW, HIGH}) {
            due("isWellIf(" + bad + ", 0, 1)", x.isWellIf(bad, 0, 1), -1);
            due("isWellIf(0, " + bad + ", 9)", x.isWellIf(0, bad, 9), -1);
        }
        for (int bad : new int[] {-1, 7, LOW, HIGH}) {
            due("isWellIf(0, 0, " + bad + ")", x.isWellIf(0, 0, bad), -2);
        }
        due("isWellIf() of what joins two parts", gridOf(7, "1./.1").isWellIf(0, 1, 5), 1);
    }

    private static void spoilers() {
        about(14);
        due("spoilers() where it is well", gridOf(7, "12/24").spoilers(), -6);
        due("spoilers() of nothing", new OneRankGrid().spoilers(), -6);
        due("spoilers() of one minor", gridOf(7, "12/25").spoilers(), 195);
        due("spoilers() of one entry", gridOf(7, "111/121/111").spoilers(), 1L << 7);
        due("spoilers() of two cycles", gridOf(7, "11../21../..11/..21").spoilers(), 0);
        due("spoilers() in the last place", gridOf(5, "111111/111111/111111/111111/111111/111112").spoilers(), 1L << 35);
        OneRankGrid x = gridOf(7, "111/121/111");
        x.spoilers();
        dueGrid("spoilers()", x, "111/121/111");
        due("count(11)", x.count(11), 2);
    }

    private static void bestEntry() {
        about(15);
        // Parts: rows 0, 1 and column 0; row 2 and columns 2, 3; column 1. Joined, the first two: 2 * 2 + 1 * 1.
        OneRankGrid x = gridOf(7, "1.../1.../..11");
        due("bestEntry(0)", x.bestEntry(0), 0);
        due("bestEntry(1)", x.bestEntry(1), 2);
        due("bestEntry(2)", x.bestEntry(2), 5);
        for (int bad : new int[] {-1, 3, LOW, HIGH}) {
            due("bestEntry(" + bad + ")", x.bestEntry(bad), -2);
        }
        // The most is not at the first: row 0 is alone, and would win less.
        x = gridOf(7, "..../11../..11");
        due("bestEntry(0)", x.bestEntry(0), 1);
        due("bestEntry(1)", x.bestEntry(1), 2);
        due("bestEntry(2)", x.bestEntry(2), 4);
        x = gridOf(7, ".1/.1");
        due("bestEntry(0) of the first place", x.bestEntry(0), 0);
        due("bestEntry(1)", x.bestEntry(1), 0);
        due("bestEntry(2)", x.bestEntry(2), 2);
        x = gridOf(7, "12/3.");
        due("bestEntry(0) of one part", x.bestEntry(0), -6);
        due("bestEntry(2) of one part", x.bestEntry(2), -6);
        due("bestEntry(3) ahead of none", x.bestEntry(3), -2);
        x = gridOf(7, "12./35./...");
        due("bestEntry(0) where it is not well", x.bestEntry(0), 0);
        due("bestEntry(1) where it is not well", x.bestEntry(1), 2);
        due("bestEntry(2) where it is not well", x.bestEntry(2), 2);
        due("count(11)", x.count(11), 2);
    }

    // ---- texts

    private static void put() {
        about(16);
        OneRankGrid x = new OneRankGrid();
        due("put(\"1\")", x.put(word("1")), 1);
        due("put(\"2/34\")", x.put(word("2/34")), 5);
        due("read()", x.read(), 4);
        dueGrid("put()", x, "12/34");
        due("put of 8 characters", x.put(word("123456/1")), 8);
        due("put(\"!~\")", x.put(word("!~")), 10);
        for (long bad : new long[] {0, 32, 127, 255, 0x3100, 0x31003100, 0x310031, 0x0100000000000031L,
            0x8031313131313131L, 0xb131313131313131L, -1, Long.MIN_VALUE, 0x3131313131313120L, 0x31317f31, 0x2031}) {
            due("put(" + bad + ")", x.put(bad), -2);
        }
        due("count(10)", x.count(10), 10);
        x.wipe();
        for (int i = 8; i <= 48; i += 8) {
            due("put to " + i, x.put(word("1/1/1/1/")), i);
        }
        due("put beyond 50", x.put(word("abc")), -4);
        due("put of a bad code ahead of that", x.put(0x20202020L), -2);
        due("count(10)", x.count(10), 48);
        due("put to 50", x.put(word("ab")), 50);
        due("put beyond 50", x.put(word("a")), -4);
        due("count(10)", x.count(10), 50);
        due("count(11), as it is no change", x.count(11), 1);
    }

    private static void wipe() {
        about(17);
        OneRankGrid x = new OneRankGrid();
        due("wipe() of nothing", x.wipe(), 0);
        x.put(word("12/34"));
        due("wipe()", x.wipe(), 5);
        due("count(10)", x.count(10), 0);
        due("wipe() again", x.wipe(), 0);
        due("count(11)", x.count(11), 0);
        x.put(word("56/66"));
        due("read() of what came behind", x.read(), 4);
        dueGrid("read()", x, "56/66");
    }

    private static void dueFault(String text, int fault) {
        OneRankGrid x = new OneRankGrid();
        write(x, text);
        due("fault() of " + text, x.fault(), fault);
        due("fault() of " + text + " again", x.fault(), fault);
        due("count(10) of " + text, x.count(10), text.length());
    }

    private static void fault() {
        about(18);
        dueFault("", 0);
        dueFault("12/34", -6);
        dueFault("....../....../....../....../....../......", -6);
        dueFault("abc/123/9..", -6);
        dueFault("1", 1);
        dueFault("12", 2);
        dueFault("123456", 6);
        dueFault("12/", 3);
        dueFault("12/3", 4);
        dueFault("12/34/", 6);
        dueFault("12/34/5", 7);
        dueFault("/12", 0);
        dueFault("1/", 1);
        dueFault("1234567", 6);
        dueFault("12/345", 5);
        dueFault("123/45/", 6);
        dueFault("123/456/78/", 10);
        dueFault("12//34", 3);
        dueFault("../../../../../../", 17);
        dueFault("../../../../../...", 17);
        dueFault("../../../../.././", 16);
        dueFault("0", 0);
        dueFault("1d/12", 1);
        dueFault("1A/12", 1);
        dueFault("12/3:", 4);
        dueFault("12/3`", 4);
        dueFault("-1/12", 0);
        dueFault("12/3456/0", 5);
        dueFault("11/22/33/44/55/66/77/88/99/11/22/33/44/55/66/77/8", 17);
    }

    // ---- undo, saving

    private static void undo() {
        about(19);
        OneRankGrid x = new OneRankGrid();
        for (int number = 1; number <= 6; number++) {
            x.tell(0, 0, number);
            due("count(11)", x.count(11), number);
        }
        x.begin(2, 4, 11);
        due("count(11)", x.count(11), 6);
        due("undo()", x.undo(), 5);
        dueGrid("undo()", x, "6../.../...");
        due("count(2)", x.count(2), 7);
        for (int number = 5; number >= 1; number--) {
            due("undo()", x.undo(), number - 1);
            due("entry(0, 0, 0)", x.entry(0, 0, 0), number);
        }
        due("undo() of what was dropped", x.undo(), -5);
        due("entry(0, 0, 0)", x.entry(0, 0, 0), 1);
        undoLeavesPadAndSlots();
        errorsAreNotRecorded();
    }

    private static void undoLeavesPadAndSlots() {
        OneRankGrid x = new OneRankGrid();
        x.tell(0, 0, 3);
        x.tell(0, 1, 4);
        x.save(0);
        write(x, "12/");
        due("undo()", x.undo(), 1);
        due("undo()", x.undo(), 0);
        due("count(10)", x.count(10), 3);
        due("restore(0)", x.restore(0), 2);
        dueGrid("restore(0)", x, "34./.../...");
        due("undo()", x.undo(), 0);
        dueGrid("undo()", x, ".../.../...");
        due("tell() after undo()", x.tell(2, 2, 1), 0);
        due("count(11)", x.count(11), 1);
    }

    private static void errorsAreNotRecorded() {
        OneRankGrid x = gridOf(7, "12/25");
        x.begin(9, 9, 9);
        x.tell(5, 5, 5);
        x.tell(0, 0, 7);
        x.tellAll();
        x.read();
        x.restore(0);
        x.restore(7);
        x.save(0);
        x.put(word("7"));
        x.wipe();
        due("count(11)", x.count(11), 2);
        due("undo()", x.undo(), 1);
        dueGrid("undo()", x, "../..");
    }

    private static void saveAndRestore() {
        about(20);
        OneRankGrid x = gridOf(13, "12/3c/..");
        due("save(0)", x.save(0), 4);
        x.tell(2, 0, 5);
        due("save(1)", x.save(1), 5);
        for (int bad : new int[] {-1, 2, LOW, HIGH}) {
            due("save(" + bad + ")", x.save(bad), -2);
        }
        due("count(11), as save() is no change", x.count(11), 3);

        about(21);
        x.begin(2, 2, 5);
        x.put(word("1"));
        due("restore(0)", x.restore(0), 4);
        dueGrid("restore(0)", x, "12/3c/..");
        due("count(2)", x.count(2), 13);
        due("count(10)", x.count(10), 1);
        due("count(11)", x.count(11), 5);
        x.tell(0, 0, 0);
        due("restore(0) again, as the slot keeps it", x.restore(0), 4);
        dueGrid("restore(0)", x, "12/3c/..");
        due("restore(1)", x.restore(1), 5);
        dueGrid("restore(1)", x, "12/3c/5.");
        due("undo()", x.undo(), 5);
        dueGrid("undo()", x, "12/3c/..");
        for (int bad : new int[] {-1, 2, LOW, HIGH}) {
            due("restore(" + bad + ")", x.restore(bad), -2);
        }
        dueGrid("restore() that was refused", x, "12/3c/..");

        about(20);
        due("begin(2, 3, 7)", x.begin(2, 3, 7), 4);
        due("save(0) over what was saved", x.save(0), 0);
        x.restore(1);
        due("restore(0)", x.restore(0), 0);
        dueGrid("restore(0)", x, ".../...");
        due("restore(1) of a new object", new OneRankGrid().restore(1), -5);
    }

    /** 512 of the longest searches on one object: it has to end, and with the same answers. */
    private static void fullGridsEndQuickly() {
        about(9);
        OneRankGrid x = gridOf(13, "123456/123456/123456/123456/123456/123457");
        for (int call = 0; call < 100; call++) {
            due("cycles(12, 1)", x.cycles(12, 1), 43200 * 12 / 36);
            due("cycles(10, 1)", x.cycles(10, 1), 51840 * 10 / 36);
        }
    }
}
