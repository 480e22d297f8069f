import java.util.ArrayList;
import java.util.List;

/**
 * A call that returns an error changes nothing: each refused call is made on objects of several kinds, and all that can
 * be seen of them is compared with what can be seen without the call. So are the calls that are no changes.
 */
public final class RefusedCalls extends Checks {
    private interface Call {
        long on(OneRankGrid x);
    }

    private interface Maker {
        OneRankGrid make();
    }

    private record Named(String name, Call call, long answer) {
    }

    private record Kind(String name, Maker maker, List<Named> refused) {
    }

    public static void main(String[] args) {
        List<Kind> kinds = List.of(newObject(), nothingTold(), allTold(), notWell(), severalParts(), undone());
        for (Kind kind : kinds) {
            refusedCallsOf(kind);
            callsThatAreNoChangeOf(kind);
        }
        end();
    }

    private static Named named(String name, Call call, long answer) {
        return new Named(name, call, answer);
    }

    // ---- kinds of objects, each with the calls that are refused just there

    private static Kind newObject() {
        return new Kind("a new object", OneRankGrid::new, List.of(
                named("read()", OneRankGrid::read, BAD_TEXT),
                named("undo()", OneRankGrid::undo, NOT_POSSIBLE),
                named("restore(0)", x -> x.restore(0), NOT_POSSIBLE),
                named("restore(1)", x -> x.restore(1), NOT_POSSIBLE),
                named("tell(3, 0, 1)", x -> x.tell(3, 0, 1), NO_SUCH),
                named("tell(0, 3, 9)", x -> x.tell(0, 3, 9), NO_SUCH),
                named("tell(2, 2, 7)", x -> x.tell(2, 2, 7), BAD_VALUE),
                named("part(6, 0)", x -> x.part(6, 0), NO_SUCH),
                named("completed(7776, 0, 0)", x -> x.completed(7776, 0, 0), NO_SUCH)));
    }

    private static Kind nothingTold() {
        Maker maker = () -> {
            OneRankGrid x = begun(2, 2, 5);
            x.save(0);
            write(x, "12/5.");
            return x;
        };
        return new Kind("nothing told, a pad with a number that is too large", maker, List.of(
                named("read()", OneRankGrid::read, BAD_VALUE),
                named("restore(1)", x -> x.restore(1), NOT_POSSIBLE),
                named("tell(2, 0, 1)", x -> x.tell(2, 0, 1), NO_SUCH),
                named("tell(0, 2, 1)", x -> x.tell(0, 2, 1), NO_SUCH),
                named("tell(1, 1, 5)", x -> x.tell(1, 1, 5), BAD_VALUE),
                named("isWellIf(1, 2, 0)", x -> x.isWellIf(1, 2, 0), NO_SUCH),
                named("isWellIf(1, 1, 5)", x -> x.isWellIf(1, 1, 5), BAD_VALUE),
                named("part(4, 3)", x -> x.part(4, 3), NO_SUCH),
                named("completed(64, 0, 0)", x -> x.completed(64, 0, 0), NO_SUCH)));
    }

    private static Kind allTold() {
        Maker maker = () -> {
            OneRankGrid x = gridOf(13, allOf('c', 6, 6));
            x.save(1);
            for (int number = 1; number <= 11; number++) {
                x.tell(5, 5, number);
            }
            x.tell(5, 5, 12);
            x.save(0);
            write(x, allOf('a', 6, 6) + "/12345678");
            return x;
        };
        return new Kind("all told, everything full", maker, List.of(
                named("put(49)", x -> x.put(49), TOO_MANY),
                named("put() of eight", x -> x.put(word("........")), TOO_MANY),
                named("read()", OneRankGrid::read, BAD_TEXT),
                named("tell(5, 5, 13)", x -> x.tell(5, 5, 13), BAD_VALUE),
                named("tell(6, 5, 1)", x -> x.tell(6, 5, 1), NO_SUCH),
                named("part(1, 0)", x -> x.part(1, 0), NO_SUCH),
                named("completed(1, 0, 0)", x -> x.completed(1, 0, 0), NO_SUCH)));
    }

    private static Kind notWell() {
        Maker maker = () -> {
            OneRankGrid x = gridOf(7, "123/246/365");
            x.save(0);
            write(x, "12/34/");
            return x;
        };
        return new Kind("not well, a pad that ends too early", maker, List.of(
                named("tellAll()", OneRankGrid::tellAll, NOT_POSSIBLE),
                named("read()", OneRankGrid::read, BAD_TEXT),
                named("completed(0, 0, 0)", x -> x.completed(0, 0, 0), NO_SUCH),
                named("restore(1)", x -> x.restore(1), NOT_POSSIBLE),
                named("tell(3, 3, 0)", x -> x.tell(3, 3, 0), NO_SUCH),
                named("tell(2, 2, 7)", x -> x.tell(2, 2, 7), BAD_VALUE),
                named("isWellIf(2, 2, 7)", x -> x.isWellIf(2, 2, 7), BAD_VALUE),
                named("part(1, 2)", x -> x.part(1, 2), NO_SUCH)));
    }

    private static Kind severalParts() {
        Maker maker = () -> {
            OneRankGrid x = gridOf(11, "1.2.3/.4.5./6.7.8/9....");
            x.tell(3, 2, 7);
            x.tell(2, 2, 1);
            x.tell(2, 4, 7);
            x.save(1);
            x.tell(3, 2, 0);
            x.put(word("1x"));
            return x;
        };
        return new Kind("several parts, a pad with a fault", maker, List.of(
                named("read()", OneRankGrid::read, BAD_TEXT),
                named("restore(0)", x -> x.restore(0), NOT_POSSIBLE),
                named("part(2, 0)", x -> x.part(2, 0), NO_SUCH),
                named("completed(10, 0, 0)", x -> x.completed(10, 0, 0), NO_SUCH),
                named("completed(9, 4, 0)", x -> x.completed(9, 4, 0), NO_SUCH),
                named("completed(9, 0, 5)", x -> x.completed(9, 0, 5), NO_SUCH),
                named("tell(4, 0, 1)", x -> x.tell(4, 0, 1), NO_SUCH),
                named("tell(0, 5, 1)", x -> x.tell(0, 5, 1), NO_SUCH),
                named("tell(0, 0, 11)", x -> x.tell(0, 0, 11), BAD_VALUE)));
    }

    private static Kind undone() {
        Maker maker = () -> {
            OneRankGrid x = new OneRankGrid();
            x.tell(1, 2, 3);
            x.save(0);
            x.begin(6, 6, 13);
            write(x, "12/34");
            x.undo();
            x.undo();
            return x;
        };
        return new Kind("an object whose history is empty again", maker, List.of(
                named("undo()", OneRankGrid::undo, NOT_POSSIBLE),
                named("restore(1)", x -> x.restore(1), NOT_POSSIBLE),
                named("tell(3, 3, 1)", x -> x.tell(3, 3, 1), NO_SUCH),
                named("tell(1, 2, 8)", x -> x.tell(1, 2, 8), BAD_VALUE)));
    }

    // ---- calls

    /** The calls that are refused in each state. */
    private static List<Named> alwaysRefused() {
        List<Named> calls = new ArrayList<>();
        for (int bad : new int[] {-1, 14, 99, LOW, HIGH}) {
            calls.add(named("begin(" + bad + ", 3, 7)", x -> x.begin(bad, 3, 7), BAD_VALUE));
            calls.add(named("begin(3, " + bad + ", 7)", x -> x.begin(3, bad, 7), BAD_VALUE));
            calls.add(named("begin(3, 3, " + bad + ")", x -> x.begin(3, 3, bad), BAD_VALUE));
            calls.add(named("tell(" + bad + ", 0, 1)", x -> x.tell(bad, 0, 1), NO_SUCH));
            calls.add(named("tell(0, " + bad + ", 99)", x -> x.tell(0, bad, 99), NO_SUCH));
            calls.add(named("tell(0, 0, " + bad + ")", x -> x.tell(0, 0, bad), BAD_VALUE));
            calls.add(named("entry(" + bad + ", 0, 0)", x -> x.entry(bad, 0, 0), NO_SUCH));
            calls.add(named("entry(0, " + bad + ", 9)", x -> x.entry(0, bad, 9), NO_SUCH));
            calls.add(named("entry(0, 0, " + bad + ")", x -> x.entry(0, 0, bad), BAD_VALUE));
            calls.add(named("part(" + bad + ", 9)", x -> x.part(bad, 9), NO_SUCH));
            calls.add(named("part(0, " + bad + ")", x -> x.part(0, bad), BAD_VALUE));
            calls.add(named("count(" + bad + ")", x -> x.count(bad), BAD_VALUE));
            calls.add(named("cycles(" + bad + ", 0)", x -> x.cycles(bad, 0), BAD_VALUE));
            calls.add(named("cycles(4, " + bad + ")", x -> x.cycles(4, bad), BAD_VALUE));
            calls.add(named("wrong(" + bad + ")", x -> x.wrong(bad), BAD_VALUE));
            calls.add(named("completed(0, " + bad + ", 0)", x -> x.completed(0, bad, 0), NO_SUCH));
            calls.add(named("completed(0, 0, " + bad + ")", x -> x.completed(0, 0, bad), NO_SUCH));
            calls.add(named("isWellIf(" + bad + ", 0, 99)", x -> x.isWellIf(bad, 0, 99), NO_SUCH));
            calls.add(named("isWellIf(0, " + bad + ", 1)", x -> x.isWellIf(0, bad, 1), NO_SUCH));
            calls.add(named("isWellIf(0, 0, " + bad + ")", x -> x.isWellIf(0, 0, bad), BAD_VALUE));
            calls.add(named("bestEntry(" + bad + ")", x -> x.bestEntry(bad), BAD_VALUE));
            calls.add(named("save(" + bad + ")", x -> x.save(bad), BAD_VALUE));
            calls.add(named("restore(" + bad + ")", x -> x.restore(bad), BAD_VALUE));
        }
        for (long bad : new long[] {-1, Long.MIN_VALUE, Long.MAX_VALUE}) {
            calls.add(named("completed(" + bad + ", 0, 0)", x -> x.completed(bad, 0, 0), NO_SUCH));
        }
        for (long bad : new long[] {0, 32, 127, 0x3120, 0x2031, 0x310031, 0x3100, -1, Long.MIN_VALUE}) {
            calls.add(named("put(" + bad + ")", x -> x.put(bad), BAD_VALUE));
        }
        return calls;
    }

    private static void refusedCallsOf(Kind kind) {
        String before = allThatIsSeen(kind.maker().make());
        List<Named> calls = new ArrayList<>(alwaysRefused());
        calls.addAll(kind.refused());
        for (Named call : calls) {
            OneRankGrid x = kind.maker().make();
            due(call.name() + " on " + kind.name(), call.call().on(x), call.answer());
            dueText("what is seen of " + kind.name() + " after " + call.name(), allThatIsSeen(x), before);
        }
    }

    private static void callsThatAreNoChangeOf(Kind kind) {
        String before = allThatIsSeen(kind.maker().make());
        List<Named> calls = List.of(
                named("entry()", x -> x.entry(1, 1, 1) + x.entry(0, 0, 2) + x.entry(1, 0, 3), 0),
                named("part()", x -> x.part(0, 0) + x.part(0, 1) + x.part(0, 2), 0),
                named("cycles()", x -> x.cycles(4, 0) + x.cycles(6, 1), 0),
                named("wrong()", x -> x.wrong(0) + x.wrong(1) + x.wrong(2), 0),
                named("completions()", x -> x.completions() + x.completed(0, 1, 1), 0),
                named("isWellIf()", x -> x.isWellIf(0, 0, 0) + x.isWellIf(1, 1, 1) + x.isWellIf(1, 0, 4), 0),
                named("spoilers()", OneRankGrid::spoilers, 0),
                named("bestEntry()", x -> x.bestEntry(0) + x.bestEntry(1) + x.bestEntry(2), 0),
                named("fault()", OneRankGrid::fault, 0));
        for (Named call : calls) {
            OneRankGrid x = kind.maker().make();
            call.call().on(x);
            dueText("what is seen of " + kind.name() + " after " + call.name(), allThatIsSeen(x), before);
        }
    }

    // ---- what is seen

    /** Asks the object for all that can be seen, and in the end takes it apart. */
    private static String allThatIsSeen(OneRankGrid x) {
        StringBuilder text = new StringBuilder();
        seeGrid(x, text);
        see(text, x.fault(), x.count(10), x.count(11));
        int undone = 0;
        for (int left = x.undo(); left != NOT_POSSIBLE && undone < 10; left = x.undo()) {
            undone++;
            text.append(" undone ").append(left).append(' ');
            seeSizes(x, text);
        }
        for (int slot = 0; slot < 2; slot++) {
            see(text, x.restore(slot));
            seeSizes(x, text);
        }
        x.begin(2, 2, 13);
        see(text, x.count(10), x.read());
        seeSizes(x, text);
        see(text, x.wipe());
        return text.toString();
    }

    private static void see(StringBuilder text, long... answers) {
        for (long answer : answers) {
            text.append(answer).append(' ');
        }
    }

    private static void seeSizes(OneRankGrid x, StringBuilder text) {
        text.append(textOf(x)).append(" modulo ").append(x.count(2)).append(' ');
    }

    private static void seeGrid(OneRankGrid x, StringBuilder text) {
        seeSizes(x, text);
        for (int what = 3; what <= 9; what++) {
            see(text, x.count(what));
        }
        for (int part = 0; part < 12; part++) {
            see(text, x.part(part, 0), x.part(part, 1), x.part(part, 2));
        }
        see(text, x.entry(0, 0, 1), x.entry(1, 1, 2), x.entry(1, 1, 3));
        see(text, x.cycles(4, 0), x.cycles(4, 1), x.cycles(6, 1), x.wrong(0), x.wrong(1), x.wrong(2));
        see(text, x.completions(), x.completed(0, 1, 1), x.spoilers(), x.isWellIf(1, 1, 1));
        see(text, x.bestEntry(0), x.bestEntry(1), x.bestEntry(2));
    }
}
