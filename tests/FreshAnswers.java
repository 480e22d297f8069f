import java.util.List;

/** An answer is about the grid as it is then: what was asked or told before, and taken back, leaves no trace in it. */
public final class FreshAnswers extends Checks {
    private interface Call {
        long on(OneRankGrid x);
    }

    private record Question(String name, Call call) {
    }

    private static final String CHANGE = "tellAll()";
    private static final List<Question> QUESTIONS = List.of(
            new Question(CHANGE, OneRankGrid::tellAll),
            new Question("entry(1, 1, 0)", x -> x.entry(1, 1, 0)),
            new Question("entry(2, 2, 1)", x -> x.entry(2, 2, 1)),
            new Question("entry(1, 1, 2)", x -> x.entry(1, 1, 2)),
            new Question("entry(0, 0, 3)", x -> x.entry(0, 0, 3)),
            new Question("part(1, 0)", x -> x.part(1, 0)),
            new Question("part(0, 1)", x -> x.part(0, 1)),
            new Question("part(0, 2)", x -> x.part(0, 2)),
            new Question("count(3)", x -> x.count(3)),
            new Question("count(4)", x -> x.count(4)),
            new Question("count(5)", x -> x.count(5)),
            new Question("count(6)", x -> x.count(6)),
            new Question("count(7)", x -> x.count(7)),
            new Question("count(8)", x -> x.count(8)),
            new Question("count(9)", x -> x.count(9)),
            new Question("cycles(4, 0)", x -> x.cycles(4, 0)),
            new Question("cycles(4, 1)", x -> x.cycles(4, 1)),
            new Question("cycles(6, 0)", x -> x.cycles(6, 0)),
            new Question("cycles(6, 1)", x -> x.cycles(6, 1)),
            new Question("wrong(0)", x -> x.wrong(0)),
            new Question("wrong(1)", x -> x.wrong(1)),
            new Question("wrong(2)", x -> x.wrong(2)),
            new Question("completions()", OneRankGrid::completions),
            new Question("completed(0, 1, 2)", x -> x.completed(0, 1, 2)),
            new Question("completed(5, 2, 1)", x -> x.completed(5, 2, 1)),
            new Question("isWellIf(1, 1, 4)", x -> x.isWellIf(1, 1, 4)),
            new Question("isWellIf(0, 1, 0)", x -> x.isWellIf(0, 1, 0)),
            new Question("spoilers()", OneRankGrid::spoilers),
            new Question("bestEntry(0)", x -> x.bestEntry(0)),
            new Question("bestEntry(1)", x -> x.bestEntry(1)),
            new Question("bestEntry(2)", x -> x.bestEntry(2)));

    /** Well and not well, in one part and in several, with long cycles and with short ones, told and empty. */
    private static final String[] GRIDS = {
        "12./24./...", "12./25./...", "11./.11/2.1", "11./.11/1.1", "124/142/111", "123/246/364", ".../.../...",
        "1../.2./..3", "1211/2412/1.1."};

    public static void main(String[] args) {
        for (String then : GRIDS) {
            long[] answers = answersOf(then);
            withNothingBetween(then, answers);
            for (String before : GRIDS) {
                for (Question first : QUESTIONS) {
                    about(19, first.name() + " was asked of " + before + ", what follows is asked of " + then);
                    for (int i = 0; i < answers.length; i++) {
                        Question second = QUESTIONS.get(i);
                        due(second.name() + " behind read()", second.call().on(read(before, first, then)), answers[i]);
                        due(second.name() + " behind undo()", second.call().on(undone(before, first, then)), answers[i]);
                        due(second.name() + " behind restore()", second.call().on(restored(before, first, then)), answers[i]);
                    }
                }
            }
        }
        end();
    }

    /** What new objects answer of the grid, as nothing was asked of them before. */
    private static long[] answersOf(String text) {
        long[] answers = new long[QUESTIONS.size()];
        for (int i = 0; i < answers.length; i++) {
            answers[i] = QUESTIONS.get(i).call().on(gridOf(7, text));
        }
        return answers;
    }

    private static void withNothingBetween(String text, long[] answers) {
        for (Question first : QUESTIONS) {
            about(19, first.name() + " was asked of " + text + ", and nothing changed");
            for (int i = 0; i < answers.length && !first.name().equals(CHANGE); i++) {
                OneRankGrid x = gridOf(7, text);
                first.call().on(x);
                due(QUESTIONS.get(i).name(), QUESTIONS.get(i).call().on(x), answers[i]);
            }
        }
    }

    private static OneRankGrid read(String before, Question first, String then) {
        OneRankGrid x = gridOf(7, before);
        first.call().on(x);
        write(x, then);
        x.read();
        return x;
    }

    private static OneRankGrid undone(String before, Question first, String then) {
        OneRankGrid x = gridOf(7, then);
        int changes = x.count(11);
        write(x, before);
        x.read();
        first.call().on(x);
        // The first question may have been a change itself.
        for (int more = x.count(11) - changes; more > 0; more--) {
            x.undo();
        }
        return x;
    }

    private static OneRankGrid restored(String before, Question first, String then) {
        OneRankGrid x = gridOf(7, then);
        x.save(1);
        write(x, before);
        x.read();
        first.call().on(x);
        x.restore(1);
        return x;
    }
}
