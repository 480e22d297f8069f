/** The boundaries that the document names for undo, save and restore. */
public final class StateBoundaries extends Checks {
    private static final int HISTORY = 6;
    private static final int LAST_CALL = 512;

    public static void main(String[] args) {
        undoOfAnEmptyHistory();
        undoOfEachKindOfChange();
        changesThatMakeNothingDifferent();
        callsThatAreNoChange();
        refusedChangesAreNotRecorded();
        sixStatesAreKept();
        theOldestStateIsDropped();
        changesAndUndosByTurns();
        undoLeavesThePad();
        undoLeavesTheSlots();
        undoneChangesAreGone();
        saveTakesTwoSlots();
        saveReturnsHowManyAreTold();
        saveKeepsTheGridAndNothingElse();
        saveOverwrites();
        restoreOfAnEmptySlot();
        restoreNamesItsErrorsInOrder();
        restoreOfEachSlot();
        restoreLeavesTheSlot();
        restoreIsAChange();
        theLastCall();
        end();
    }

    /** The sizes, the modulus and the entries. */
    private static String stateOf(OneRankGrid x) {
        return textOf(x) + " modulo " + x.count(2);
    }

    private static void dueState(String after, OneRankGrid x, String state) {
        dueText("the state after " + after, stateOf(x), state);
    }

    // ---- promise 19

    private static void undoOfAnEmptyHistory() {
        about(19, "NOT_POSSIBLE if there is none");
        OneRankGrid x = new OneRankGrid();
        due("undo() of nothing", x.undo(), NOT_POSSIBLE);
        dueState("undo() that was refused", x, ".../.../... modulo 7");
        due("count(11)", x.count(11), 0);
        x.tell(0, 0, 1);
        due("count(11)", x.count(11), 1);
        due("undo()", x.undo(), 0);
        due("undo() of nothing again", x.undo(), NOT_POSSIBLE);
        due("undo() of nothing once more", x.undo(), NOT_POSSIBLE);
        due("count(11)", x.count(11), 0);
        due("tell() behind that", x.tell(0, 0, 2), 0);
        due("count(11)", x.count(11), 1);
        due("undo()", x.undo(), 0);
        dueState("undo()", x, ".../.../... modulo 7");
    }

    /** A change of each kind; returns what it answers. */
    private static int change(OneRankGrid x, int kind) {
        switch (kind) {
            case 0:
                return x.begin(6, 2, 5);
            case 1:
                return x.begin(2, 6, 13);
            case 2:
                return x.tell(2, 2, 4);
            case 3:
                return x.tell(0, 0, 0);
            case 4:
                return x.tellAll();
            case 5:
                write(x, "12.456/1.3...");
                return x.read();
            default:
                return x.restore(1);
        }
    }

    private static void undoOfEachKindOfChange() {
        about(19, "everything except the pad, the slots and the history is as it was before it");
        int[] answers = {5, 5, 5, 1, 2, 7, 1};
        for (int kind = 0; kind < answers.length; kind++) {
            OneRankGrid x = begun(2, 2, 13);
            x.tell(1, 1, 12);
            x.save(1);
            x.begin(3, 4, 7);
            write(x, "12../3..6/..5.");
            x.read();
            String before = stateOf(x);
            due("the change " + kind, change(x, kind), answers[kind]);
            due("whether the change " + kind + " made something different", stateOf(x).equals(before) ? 1 : 0, 0);
            due("count(11)", x.count(11), 5);
            due("undo()", x.undo(), 4);
            dueState("undo() of the change " + kind, x, before);
            due("count(3)", x.count(3), 5);
            due("count(4)", x.count(4), 2);
            due("count(5)", x.count(5), 1);
        }
    }

    private static void changesThatMakeNothingDifferent() {
        about(19, "records the state before it (also if nothing is different then)");
        OneRankGrid x = new OneRankGrid();
        due("begin() as it is", x.begin(3, 3, 7), 0);
        due("count(11)", x.count(11), 1);
        due("tell() of 0 where nothing is told", x.tell(1, 1, 0), 0);
        due("count(11)", x.count(11), 2);
        due("tellAll() of nothing", x.tellAll(), 0);
        due("count(11)", x.count(11), 3);
        x.save(0);
        due("restore() as it is", x.restore(0), 0);
        due("count(11)", x.count(11), 4);
        write(x, ".../.../...");
        due("read() as it is", x.read(), 0);
        due("count(11)", x.count(11), 5);
        x.tell(0, 0, 3);
        due("tell() as it is", x.tell(0, 0, 3), 3);
        due("count(11)", x.count(11), 6);
        due("undo()", x.undo(), 5);
        dueState("undo() of tell() as it is", x, "3../.../... modulo 7");
        for (int left = 4; left >= 0; left--) {
            due("undo()", x.undo(), left);
            dueState("undo() of what made nothing different", x, ".../.../... modulo 7");
        }
        due("undo() of the seventh", x.undo(), NOT_POSSIBLE);
    }

    private static void callsThatAreNoChange() {
        about(19, "each method that is a change records the state before it");
        OneRankGrid x = gridOf(7, "12./3../...");
        String before = stateOf(x);
        for (int what = 0; what <= 3; what++) {
            x.entry(1, 1, what);
            x.part(0, what);
            x.wrong(what);
            x.bestEntry(what);
            x.cycles(4 + what, what);
        }
        for (int what = 0; what <= 11; what++) {
            x.count(what);
        }
        x.completions();
        x.completed(1, 2, 2);
        x.isWellIf(1, 1, 5);
        x.spoilers();
        x.put(word("12"));
        x.fault();
        x.wipe();
        x.save(0);
        due("count(11)", x.count(11), 2);
        dueState("calls that are no change", x, before);
        due("undo()", x.undo(), 1);
        dueState("undo()", x, "../.. modulo 7");
        due("undo() itself is no change", x.undo(), 0);
        dueState("undo()", x, ".../.../... modulo 7");
    }

    private static void refusedChangesAreNotRecorded() {
        about(19, "each method that is a change, and returns no error");
        OneRankGrid x = gridOf(5, "11/12");
        due("begin(2, 2, 6)", x.begin(2, 2, 6), BAD_VALUE);
        due("tell(2, 0, 1)", x.tell(2, 0, 1), NO_SUCH);
        due("tell(0, 0, 5)", x.tell(0, 0, 5), BAD_VALUE);
        due("tellAll()", x.tellAll(), NOT_POSSIBLE);
        due("read()", x.read(), BAD_TEXT);
        write(x, "55/55");
        due("read()", x.read(), BAD_VALUE);
        due("restore(0)", x.restore(0), NOT_POSSIBLE);
        due("restore(2)", x.restore(2), BAD_VALUE);
        due("count(11)", x.count(11), 2);
        due("undo()", x.undo(), 1);
        dueState("undo()", x, "../.. modulo 5");
    }

    private static void sixStatesAreKept() {
        about(19, "a history of at most 6 states is kept");
        OneRankGrid x = begun(2, 2, 13);
        for (int number = 1; number <= 12; number++) {
            x.tell(0, 1, number);
            due("count(11)", x.count(11), Math.min(number + 1, HISTORY));
        }
        for (int left = HISTORY - 1; left >= 0; left--) {
            due("undo()", x.undo(), left);
            due("entry(0, 1, 0)", x.entry(0, 1, 0), 7 + left - 1);
        }
        due("undo() of a state that was dropped", x.undo(), NOT_POSSIBLE);
        due("entry(0, 1, 0)", x.entry(0, 1, 0), 6);
    }

    private static void theOldestStateIsDropped() {
        about(19, "when one more is recorded, the oldest one is dropped");
        for (int changes = 1; changes <= 30; changes++) {
            OneRankGrid x = new OneRankGrid();
            for (int i = 1; i <= changes; i++) {
                x.begin(2 + i % 5, 2 + i / 5 % 5, MODULI[i % 4]);
            }
            for (int i = changes - 1; i >= Math.max(0, changes - HISTORY); i--) {
                due("undo() of " + changes + " changes", x.undo(), Math.min(changes, HISTORY) - (changes - i));
                due("count(0)", x.count(0), i == 0 ? 3 : 2 + i % 5);
                due("count(1)", x.count(1), i == 0 ? 3 : 2 + i / 5 % 5);
                due("count(2)", x.count(2), i == 0 ? 7 : MODULI[i % 4]);
            }
            due("undo() of too many", x.undo(), NOT_POSSIBLE);
        }
    }

    /** So many changes, so many undos, and again, so that the states come to stand in each place. */
    private static void changesAndUndosByTurns() {
        about(19, "undoes the latest change");
        for (int changes = 1; changes <= 8; changes++) {
            for (int undos = 1; undos <= 7; undos++) {
                OneRankGrid x = begun(2, 2, 13);
                int[] past = new int[200];
                int size = 0;
                int kept = 1;
                for (int round = 0; round < 12; round++) {
                    for (int i = 0; i < changes; i++) {
                        int number = 1 + (5 * round + 7 * i) % 12;
                        due("tell()", x.tell(1, 0, number), past[size]);
                        size++;
                        past[size] = number;
                        kept = Math.min(kept + 1, HISTORY);
                    }
                    for (int i = 0; i < undos && kept > 0 && size > 0; i++) {
                        size--;
                        kept--;
                        due("undo()", x.undo(), kept);
                        due("entry(1, 0, 0)", x.entry(1, 0, 0), past[size]);
                    }
                }
                due("count(11)", x.count(11), kept);
            }
        }
    }

    private static void undoLeavesThePad() {
        about(19, "everything except the pad");
        OneRankGrid x = new OneRankGrid();
        x.put(word("12/3"));
        x.tell(0, 0, 1);
        x.put('4');
        due("undo()", x.undo(), 0);
        due("count(10) as undo() leaves the pad", x.count(10), 5);
        due("read()", x.read(), 4);
        due("undo() of read()", x.undo(), 0);
        due("count(10) as it was emptied", x.count(10), 0);
        due("fault()", x.fault(), 0);
        x.tell(0, 0, 1);
        write(x, "1".repeat(50));
        x.undo();
        due("wipe() of a full pad", x.wipe(), 50);
    }

    private static void undoLeavesTheSlots() {
        about(19, "everything except the slots");
        OneRankGrid x = new OneRankGrid();
        x.tell(0, 0, 5);
        x.save(0);
        x.tell(0, 1, 6);
        x.save(1);
        due("undo()", x.undo(), 1);
        due("undo()", x.undo(), 0);
        due("restore(1) of what was saved before undo()", x.restore(1), 2);
        dueState("restore(1)", x, "56./.../... modulo 7");
        due("restore(0) of what was saved before undo()", x.restore(0), 1);
        dueState("restore(0)", x, "5../.../... modulo 7");
        due("undo() of restore()", x.undo(), 1);
        due("undo() of restore()", x.undo(), 0);
        due("restore(1) again", x.restore(1), 2);
    }

    private static void undoneChangesAreGone() {
        about(19, "returns how many changes can be undone then");
        OneRankGrid x = new OneRankGrid();
        x.tell(0, 0, 1);
        x.tell(0, 0, 2);
        x.tell(0, 0, 3);
        due("undo()", x.undo(), 2);
        due("undo()", x.undo(), 1);
        due("tell() behind undo()", x.tell(0, 0, 4), 1);
        due("count(11)", x.count(11), 2);
        due("undo()", x.undo(), 1);
        due("entry(0, 0, 0)", x.entry(0, 0, 0), 1);
        due("undo()", x.undo(), 0);
        due("entry(0, 0, 0)", x.entry(0, 0, 0), 0);
        due("undo()", x.undo(), NOT_POSSIBLE);
    }

    // ---- promise 20

    private static void saveTakesTwoSlots() {
        about(20, "slot: 0 or 1; BAD_VALUE if there is no such slot");
        OneRankGrid x = gridOf(7, "12/3.");
        for (int slot = -5; slot <= 8; slot++) {
            due("save(" + slot + ")", x.save(slot), slot == 0 || slot == 1 ? 3 : BAD_VALUE);
        }
        for (int bad : new int[] {LOW, LOW + 1, HIGH, 256, 1 << 16, 1 << 30}) {
            due("save(" + bad + ")", x.save(bad), BAD_VALUE);
        }
        x = gridOf(7, "12/3.");
        for (int bad : new int[] {-1, 2, LOW, HIGH}) {
            x.save(bad);
        }
        due("restore(0) when no save() was taken", x.restore(0), NOT_POSSIBLE);
        due("restore(1) when no save() was taken", x.restore(1), NOT_POSSIBLE);
    }

    private static void saveReturnsHowManyAreTold() {
        about(20, "returns how many entries are told");
        for (int rows = 2; rows <= 6; rows++) {
            for (int columns = 2; columns <= 6; columns++) {
                OneRankGrid x = begun(rows, columns, 5);
                due("save(0) of nothing", x.save(0), 0);
                write(x, allOf('4', rows, columns));
                x.read();
                due("save(1) of all", x.save(1), rows * columns);
                due("restore(0) of nothing", x.restore(0), 0);
                dueState("restore(0)", x, allOf('.', rows, columns) + " modulo 5");
                due("restore(1) of all", x.restore(1), rows * columns);
                dueState("restore(1)", x, allOf('4', rows, columns) + " modulo 5");
            }
        }
    }

    private static void saveKeepsTheGridAndNothingElse() {
        about(20, "saves everything except the pad, the history and the slots");
        OneRankGrid x = gridOf(13, "1c.../..b../2.3.4");
        String state = stateOf(x);
        x.put(word("12"));
        due("save(0)", x.save(0), 6);
        due("count(11), as it is no change", x.count(11), 2);
        due("count(10), as the pad stays", x.count(10), 2);
        dueState("save(0)", x, state);
        x.put(word("/34"));
        x.save(1);
        x.begin(2, 2, 5);
        x.tell(1, 1, 4);
        x.put(word("/5"));
        due("restore(0)", x.restore(0), 6);
        dueState("restore(0)", x, state);
        due("count(10), as the pad is not restored", x.count(10), 7);
        due("count(11), as the history is not restored", x.count(11), 5);
        due("restore(1), as the slots are not restored", x.restore(1), 6);
    }

    private static void saveOverwrites() {
        about(20, "overwrites what was saved there");
        OneRankGrid x = gridOf(13, allOf('c', 6, 6));
        due("save(0)", x.save(0), 36);
        due("save(1)", x.save(1), 36);
        x.begin(2, 2, 5);
        x.tell(0, 0, 4);
        due("save(0) over that", x.save(0), 1);
        x.begin(6, 6, 13);
        due("restore(0)", x.restore(0), 1);
        dueState("restore(0)", x, "4./.. modulo 5");
        due("restore(1), as the other slot stays", x.restore(1), 36);
        dueState("restore(1)", x, allOf('c', 6, 6) + " modulo 13");
        x.begin(6, 6, 13);
        x.save(0);
        x.save(1);
        due("restore(0) of nothing told", x.restore(0), 0);
        due("restore(1) of nothing told", x.restore(1), 0);
        dueState("restore(1)", x, allOf('.', 6, 6) + " modulo 13");
    }

    // ---- promise 21

    private static void restoreOfAnEmptySlot() {
        about(21, "NOT_POSSIBLE if nothing was saved in it");
        for (int slot = 0; slot < 2; slot++) {
            OneRankGrid x = gridOf(7, "12/3.");
            due("restore(" + slot + ")", x.restore(slot), NOT_POSSIBLE);
            x.save(1 - slot);
            due("restore(" + slot + ") when the other one is saved", x.restore(slot), NOT_POSSIBLE);
            dueState("restore() that was refused", x, "12/3. modulo 7");
            due("count(11)", x.count(11), 2);
            due("restore(" + (1 - slot) + ")", x.restore(1 - slot), 3);
            x.save(slot);
            due("restore(" + slot + ") when it is saved", x.restore(slot), 3);
        }
    }

    private static void restoreNamesItsErrorsInOrder() {
        about(21, "BAD_VALUE if there is no such slot, ahead of NOT_POSSIBLE");
        OneRankGrid x = new OneRankGrid();
        for (int round = 0; round < 2; round++) {
            for (int slot = -5; slot <= 8; slot++) {
                if (slot < 0 || slot > 1) {
                    due("restore(" + slot + ")", x.restore(slot), BAD_VALUE);
                }
            }
            for (int bad : new int[] {LOW, LOW + 1, HIGH, 256, 1 << 16, 1 << 30}) {
                due("restore(" + bad + ")", x.restore(bad), BAD_VALUE);
            }
            x.save(0);
            x.save(1);
        }
        due("count(11)", x.count(11), 0);
    }

    private static void restoreOfEachSlot() {
        about(21, "restores what was saved last in a slot");
        for (int modulus : MODULI) {
            for (int rows = 2; rows <= 6; rows++) {
                for (int columns = 2; columns <= 6; columns++) {
                    OneRankGrid x = begun(rows, columns, modulus);
                    x.tell(rows - 1, columns - 1, modulus - 1);
                    String state = stateOf(x);
                    x.save(1);
                    x.begin(8 - rows, 8 - columns, modulus == 11 ? 5 : 11);
                    x.tell(0, 0, 1);
                    x.save(0);
                    due("restore(1)", x.restore(1), 1);
                    dueState("restore(1)", x, state);
                    due("tell() outside", x.tell(rows, 0, 1), NO_SUCH);
                    due("tell() of the modulus", x.tell(0, 0, modulus), BAD_VALUE);
                }
            }
        }
    }

    private static void restoreLeavesTheSlot() {
        about(21, "a slot, which keeps it");
        OneRankGrid x = gridOf(7, "12/3.");
        x.save(0);
        for (int round = 0; round < 8; round++) {
            x.tell(0, 0, 6);
            x.tell(1, 1, 5);
            due("restore(0)", x.restore(0), 3);
            dueState("restore(0)", x, "12/3. modulo 7");
            due("undo()", x.undo(), round < 1 ? 4 : 5);
            dueState("undo() of restore(0)", x, "62/35 modulo 7");
        }
        x.begin(6, 6, 13);
        due("restore(0) when all else is different", x.restore(0), 3);
        dueState("restore(0)", x, "12/3. modulo 7");
    }

    private static void restoreIsAChange() {
        about(21, "this is a change");
        OneRankGrid x = new OneRankGrid();
        x.save(0);
        for (int count = 1; count <= 8; count++) {
            due("restore(0)", x.restore(0), 0);
            due("count(11)", x.count(11), Math.min(count, HISTORY));
        }
        x.tell(2, 2, 6);
        x.restore(0);
        due("undo()", x.undo(), 5);
        dueState("undo() of restore(0)", x, ".../.../..6 modulo 7");
        due("undo()", x.undo(), 4);
        dueState("undo() of tell()", x, ".../.../... modulo 7");
    }

    private static void theLastCall() {
        about(19, "an object is used for at most 512 calls after it has been made");
        OneRankGrid x = new OneRankGrid();
        int previous = 0;
        for (int call = 1; call < LAST_CALL; call++) {
            int number = call % 7;
            due("tell() as the call " + call, x.tell(2, 1, number), previous);
            previous = number;
        }
        due("undo() as the last call", x.undo(), 5);
    }
}
