import java.util.ArrayList;
import java.util.Arrays;
import java.util.List;
import java.util.Random;

/** Promises 8, 10 to 23, 27, 28 on many small lexicons made by a fixed dice, held against the plain model. */
public final class ModelTest {
    private static final Check check = new Check();

    public static void main(String[] args) {
        int rounds = args.length > 1 ? Integer.parseInt(args[1]) : 400;
        long seed = args.length > 2 ? Long.parseLong(args[2]) : 1;
        Random dice = new Random(seed);
        int sentences = 0;
        int held = 0;
        for (int round = 0; round < rounds; round++) {
            Model model = lexicon(dice);
            WordKeys x = Check.with(model.text());
            for (int i = 0; i < 3; i++) {
                List<Integer> row = row(model, dice);
                Check.row(x, Model.textOf(row));
                sentences += x.readings() > 0 ? 1 : 0;
                held += hold(x, model, row, dice);
            }
        }
        for (int round = 0; round < rounds / 4; round++) {
            learn(dice);
        }
        System.out.println("sentences: " + sentences + ", dear calls held: " + held);
        check.finish("ModelTest");
    }

    private static Model lexicon(Random dice) {
        Model model = new Model();
        model.kinds = 1 + dice.nextInt(dice.nextInt(4) == 0 ? 5 : 2);
        model.goal = dice.nextInt(3) > 0 ? new Model.T(0) : tag(model, dice, 3);
        int words = 1 + dice.nextInt(5);
        for (int word = 0; word < words; word++) {
            List<Model.T> tags = new ArrayList<>();
            int many = 1 + dice.nextInt(dice.nextBoolean() ? 1 : 3);
            for (int i = 0; i < many; i++) {
                tags.add(tag(model, dice, dice.nextInt(4)));
            }
            model.words.add(tags);
        }
        return model;
    }

    private static Model.T tag(Model model, Random dice, int slashes) {
        if (slashes == 0) {
            return new Model.T(dice.nextInt(model.kinds));
        }
        int ahead = dice.nextInt(slashes);
        char sign = dice.nextBoolean() ? '/' : '\\';
        return new Model.T(sign, tag(model, dice, ahead), tag(model, dice, slashes - 1 - ahead));
    }

    /** Of some rows one that is a sentence, if there is one: rows that are none are all alike. */
    private static List<Integer> row(Model model, Random dice) {
        List<Integer> row = new ArrayList<>();
        for (int tries = 0; tries < 12; tries++) {
            row.clear();
            int length = 1 + dice.nextInt(5);
            for (int i = 0; i < length; i++) {
                row.add(dice.nextInt(model.words.size()));
            }
            if (tries % 2 == 0 && model.even(row) > 0 && model.isSentence(row)) {
                break;
            }
        }
        return row;
    }

    private static int hold(WordKeys x, Model model, List<Integer> row, Random dice) {
        String name = model.text() + " [" + Model.textOf(row) + "] ";
        holdReadings(x, model, row, name);
        check.due(name + "even", x.even(), model.even(row));
        for (int kind = 0; kind < model.kinds; kind++) {
            check.due(name + "lacks " + kind, x.lacks(kind), model.lacks(row, kind));
            int from = dice.nextInt(row.size());
            int to = from + dice.nextInt(row.size() - from);
            check.due(name + "span " + from + " " + to, x.span(from, to, kind), model.span(row, from, to, kind));
        }
        for (int word = 0; word < model.words.size(); word++) {
            check.due(name + "tags", x.tags(word), model.words.get(word).size());
            for (int tag = 0; tag < model.words.get(word).size(); tag++) {
                Model.T told = model.words.get(word).get(tag);
                check.due(name + "number", x.number(word, tag), model.kinds > 2 ? x.number(word, tag) : model.numberOf(told));
            }
        }
        check.due(name + "lost", x.lost(), model.lost(row));
        int place = dice.nextInt(row.size());
        check.due(name + "inPlace " + place, x.inPlace(place), model.inPlace(row, place));
        int slashes = dice.nextInt(model.kinds > 2 ? 2 : 3);
        int[] could = model.could(row, place, slashes);
        check.due(name + "could " + place + " " + slashes + " 0", x.could(place, slashes, 0), could[0]);
        check.due(name + "could " + place + " " + slashes + " 1", x.could(place, slashes, 1), could[1]);
        if (row.size() > 4 || dice.nextInt(3) > 0) {
            return 0;
        }
        int[] mended = model.mended(row);
        check.due(name + "mended 0", x.mended(0), mended[0]);
        check.due(name + "mended 1", x.mended(1), mended[1]);
        int[] added = model.added(row);
        for (int what = 0; what < 5; what++) {
            check.due(name + "added " + what, x.added(what), added[what]);
        }
        return 1;
    }

    private static void holdReadings(WordKeys x, Model model, List<Integer> row, String name) {
        List<Model.Reading> readings = model.readings(model.tagsOf(row), model.goal, 301);
        if (readings.size() > 300) {
            check.due(name + "readings", x.readings(), -2);
            check.due(name + "chosen", x.chosen(0, 0), -2);
            return;
        }
        check.due(name + "readings", x.readings(), readings.size());
        for (int r = 0; r < readings.size(); r++) {
            int reading = r;
            Model.Reading due = readings.get(r);
            check.dueRow(name + "chosen " + r, i -> x.chosen(reading, i), due.chosen);
            check.dueRow(name + "tied " + r, i -> x.tied(reading, i), due.ties);
            check.dueRow(name + "meaning " + r, i -> x.meaning(reading, i), due.meaning.stream().mapToInt(i -> i).toArray());
            check.dueRow(name + "over " + r, i -> x.over(reading, i), due.over);
            int first = 0;
            while (!readings.get(first).meaning.equals(due.meaning)) {
                first++;
            }
            check.due(name + "same " + r, x.same(r), first);
        }
    }

    private static void learn(Random dice) {
        Model model = new Model();
        model.kinds = 1 + dice.nextInt(2);
        model.goal = tag(model, dice, dice.nextInt(4) == 0 ? 1 + dice.nextInt(2) : 0);
        int words = 1 + dice.nextInt(3);
        for (int word = 0; word < words; word++) {
            model.words.add(List.of(tag(model, dice, dice.nextInt(2))));
        }
        WordKeys x = Check.with(model.text());
        List<List<Integer>> right = new ArrayList<>();
        List<List<Integer>> wrong = new ArrayList<>();
        int firstWrong = -1;
        int examples = 1 + dice.nextInt(5);
        for (int i = 0; i < examples; i++) {
            List<Integer> row = row(model, dice);
            boolean isSentence = model.isSentence(row);
            boolean told = dice.nextInt(8) == 0 ? !isSentence : isSentence;
            (told ? right : wrong).add(new ArrayList<>(row));
            firstWrong = firstWrong < 0 && told != isSentence ? i : firstWrong;
            Check.row(x, Model.textOf(row));
            x.example(told);
        }
        String name = model.text() + " right " + right + " wrong " + wrong + " ";
        check.due(name + "judge", x.judge(0), firstWrong);
        int[] learnt = model.learnt(right, wrong);
        check.due(name + "learnt", x.learnt(-1, 0), learnt == null ? -1 : learnt[0]);
        for (int word = 0; word < words; word++) {
            check.due(name + "learnt " + word, x.learnt(word, 0), learnt == null ? -1 : learnt[word + 1]);
        }
        check.due(name + "learnt " + Arrays.toString(learnt), x.learnt(words, 0), -3);
    }
}
