import java.util.ArrayList;
import java.util.List;
import java.util.function.Consumer;
import java.util.function.ToLongFunction;

/**
 * Two objects with one story, of which one gets calls that are refused, too: whatever can be asked of both is
 * answered alike then, and whatever was on the TAPE and in the BOXES is there still.
 */
final class Twins {
    private final Check check;
    private final WordKeys plain = new WordKeys();
    private final WordKeys tried = new WordKeys();

    Twins(Check check, Consumer<WordKeys> story) {
        this.check = check;
        story.accept(plain);
        story.accept(tried);
    }

    Twins refused(String call, ToLongFunction<WordKeys> asked, long due) {
        check.due("refused: " + call, asked.applyAsLong(tried), due);
        return this;
    }

    Twins refused(String call, ToLongFunction<WordKeys> asked) {
        return refused(call, asked, WordKeys.NONE);
    }

    /** A text that is refused leaves an empty TAPE. */
    Twins refusedText(String text, ToLongFunction<WordKeys> asked) {
        plain.end(0);
        tried.end(0);
        Check.type(tried, text);
        return refused(text, asked);
    }

    void alike(String story) {
        alike(story, true);
    }

    /** Faults are left out where a text was refused, as that text's own is to be told then. */
    void alike(String story, boolean withFaults) {
        List<String> due = new ArrayList<>();
        List<String> got = new ArrayList<>();
        if (withFaults) {
            askFaults(plain, due);
            askFaults(tried, got);
        }
        askAll(plain, due);
        askAll(tried, got);
        useUp(plain, due);
        useUp(tried, got);
        for (int i = 0; i < due.size(); i++) {
            boolean isAlike = due.get(i).equals(got.get(i));
            check.due(story + ": " + got.get(i) + " for " + due.get(i), isAlike, true);
        }
    }

    private static void tell(List<String> answers, String call, long answer) {
        answers.add(call + " = " + answer);
    }

    private static void askFaults(WordKeys x, List<String> answers) {
        tell(answers, "fault 0", x.fault(0));
        tell(answers, "fault 1", x.fault(1));
    }

    private static void askAll(WordKeys x, List<String> answers) {
        for (int what = 0; what < 7; what++) {
            tell(answers, "about " + what, x.about(what));
        }
        for (int word = 0; word < x.about(1); word++) {
            tell(answers, "tags " + word, x.tags(word));
            tell(answers, "number " + word, x.number(word, x.tags(word) - 1));
        }
        askReadings(x, answers);
        askRepairs(x, answers);
        askExamples(x, answers);
    }

    private static void askReadings(WordKeys x, List<String> answers) {
        int last = Math.max(x.readings() - 1, 0);
        tell(answers, "readings", x.readings());
        tell(answers, "same", x.same(last));
        for (int i = 0; i < x.about(2); i++) {
            tell(answers, "at " + i, x.at(i));
            tell(answers, "chosen " + i, x.chosen(last, i));
            tell(answers, "tied " + i, x.tied(last, i));
            tell(answers, "meaning " + i, x.meaning(last, i));
            tell(answers, "over " + i, x.over(last, i));
        }
    }

    private static void askRepairs(WordKeys x, List<String> answers) {
        tell(answers, "even", x.even());
        tell(answers, "lost", x.lost());
        tell(answers, "mended", x.mended(1));
        for (int what = 0; what < 5; what++) {
            tell(answers, "added " + what, x.added(what));
        }
        for (int place = 0; place < x.about(2); place++) {
            tell(answers, "could " + place, x.could(place, 1, 1));
            tell(answers, "span " + place, x.span(place, x.about(2) - 1, 0));
            tell(answers, "inPlace " + place, x.inPlace(place));
        }
        for (int kind = 0; kind < x.about(0); kind++) {
            tell(answers, "lacks " + kind, x.lacks(kind));
        }
    }

    private static void askExamples(WordKeys x, List<String> answers) {
        for (int ago = 0; ago < 9; ago++) {
            int k = x.about(4) - ago;
            tell(answers, "judge " + k, x.judge(k));
            tell(answers, "learnt " + k, x.learnt(WordKeys.NONE, k));
            tell(answers, "learnt 0 " + k, x.learnt(0, k));
        }
    }

    private static void useUp(WordKeys x, List<String> answers) {
        tell(answers, "row of the TAPE", x.row());
        tell(answers, "its fault", x.fault(1));
        tell(answers, "its first word", x.at(0));
        tell(answers, "its last word", x.at(x.about(2) - 1));
        for (int box = 0; box < 3; box++) {
            tell(answers, "back " + box, x.back(box));
            tell(answers, "words of box " + box, x.about(2));
            tell(answers, "first word of box " + box, x.at(0));
            askExamples(x, answers);
        }
        for (int example = 0; example < 12; example++) {
            tell(answers, "untell " + example, x.untell(example) ? 1 : 0);
        }
        tell(answers, "later", x.later(0));
    }
}
