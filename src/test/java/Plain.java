import java.util.ArrayList;
import java.util.Arrays;
import java.util.List;

/** The whole face once more, by the document's words alone, on the plain models: nothing is kept that could be old. */
final class Plain {
    private static final int NONE = -1;

    private record Told(List<Integer> words, boolean isRight, int at, Integer untoldAt) {
        boolean counts(int k) {
            return at <= k && !(untoldAt != null && untoldAt <= k);
        }
    }

    private record Box(List<Integer> row, List<Told> examples) {
    }

    private final StringBuilder tape = new StringBuilder();
    private TextModel text = TextModel.lexicon("");
    private Model model = new Model();
    private List<Integer> row = List.of();
    private List<Told> examples = List.of();
    private Box[] boxes = new Box[3];
    private int time;
    private int fault;
    private int place = NONE;

    public int feed(int a, int b, int c, int d, int e) {
        if (tape.length() + 20 > 1600) {
            return NONE;
        }
        for (int number : new int[] {a, b, c, d, e}) {
            tape.append((char) (number >>> 24)).append((char) (number >>> 16 & 255));
            tape.append((char) (number >>> 8 & 255)).append((char) (number & 255));
        }
        return tape.length();
    }

    public int end(int n) {
        if (n < 0 || n > tape.length()) {
            return NONE;
        }
        tape.setLength(n);
        return n;
    }

    private String takeTape() {
        String all = tape.toString();
        tape.setLength(0);
        return all;
    }

    private boolean isGood(TextModel read) {
        fault = read.fault;
        place = read.place;
        return fault == 0;
    }

    public int lexicon() {
        TextModel read = TextModel.lexicon(takeTape());
        if (!isGood(read)) {
            return NONE;
        }
        text = read;
        model = new Model();
        model.kinds = read.kinds.size();
        model.words.addAll(read.tags);
        model.goal = read.goal != null || model.kinds == 0 ? read.goal : new Model.T(0);
        row = List.of();
        examples = List.of();
        boxes = new Box[3];
        return read.words.size();
    }

    public int row() {
        TextModel read = TextModel.row(takeTape(), text.words);
        if (!isGood(read)) {
            return NONE;
        }
        row = read.row;
        return row.size();
    }

    public int fault(int what) {
        return what == 0 ? fault : what == 1 ? place : NONE;
    }

    public int tags(int word) {
        return isWord(word) ? model.words.get(word).size() : NONE;
    }

    public int number(int word, int tag) {
        if (tag < 0 || tag >= tags(word)) {
            return NONE;
        }
        return model.numberOf(model.words.get(word).get(tag));
    }

    public int at(int place) {
        return isPlace(place) ? row.get(place) : NONE;
    }

    boolean isWord(int word) {
        return word >= 0 && word < model.words.size();
    }

    private boolean isPlace(int place) {
        return place >= 0 && place < row.size();
    }

    private List<Model.Reading> found;
    private List<Integer> foundFor;
    private Model foundBy;

    /** Kept for the ROW that it was found for: tests ask for every part of it. */
    private List<Model.Reading> all() {
        if (foundFor == null || !foundFor.equals(row) || foundBy != model) {
            found = model.readings(model.tagsOf(row), model.goal, 301);
            foundFor = row;
            foundBy = model;
        }
        return found;
    }

    public int readings() {
        return all().size() > 300 ? -2 : all().size();
    }

    private int part(int reading, int i, java.util.function.Function<Model.Reading, int[]> whole) {
        if (readings() == -2) {
            return -2;
        }
        if (reading < 0 || reading >= readings()) {
            return NONE;
        }
        int[] numbers = whole.apply(all().get(reading));
        return i < 0 || i >= numbers.length ? NONE : numbers[i];
    }

    public int chosen(int reading, int place) {
        return part(reading, place, found -> found.chosen);
    }

    public int tied(int reading, int end) {
        return part(reading, end, found -> found.ties);
    }

    public int meaning(int reading, int i) {
        return part(reading, i, found -> found.meaning.stream().mapToInt(number -> number).toArray());
    }

    public int over(int reading, int place) {
        return part(reading, place, found -> found.over);
    }

    public int same(int reading) {
        if (readings() == -2) {
            return -2;
        }
        for (int first = 0; reading >= 0 && reading < readings(); first++) {
            if (all().get(first).meaning.equals(all().get(reading).meaning)) {
                return first;
            }
        }
        return NONE;
    }

    public int even() {
        return row.isEmpty() ? 0 : model.even(row);
    }

    public int lost() {
        return row.isEmpty() ? NONE : model.lost(row);
    }

    public int mended(int what) {
        if (what != 0 && what != 1 || row.isEmpty()) {
            return NONE;
        }
        return row.size() > 6 ? -2 : model.mended(row)[what];
    }

    public int could(int place, int n, int what) {
        if (!isPlace(place) || n < 0 || n > 2 || what != 0 && what != 1) {
            return NONE;
        }
        return model.could(row, place, n)[what];
    }

    public int span(int from, int to, int kind) {
        if (!isPlace(from) || !isPlace(to) || to < from || kind < 0 || kind >= model.kinds) {
            return NONE;
        }
        return model.span(row, from, to, kind);
    }

    public int added(int what) {
        return what < 0 || what > 4 ? NONE : model.added(row)[what];
    }

    public int inPlace(int place) {
        return isPlace(place) ? model.inPlace(row, place) : NONE;
    }

    public int lacks(int kind) {
        return kind < 0 || kind >= model.kinds ? -1000 : model.lacks(row, kind);
    }

    public int example(boolean right) {
        if (row.isEmpty() || row.size() > 6 || examples.size() == 12) {
            return NONE;
        }
        List<Told> more = new ArrayList<>(examples);
        more.add(new Told(row, right, time, null));
        examples = more;
        return examples.size() - 1;
    }

    public boolean untell(int example) {
        if (example < 0 || example >= examples.size() || examples.get(example).untoldAt != null) {
            return false;
        }
        Told told = examples.get(example);
        List<Told> changed = new ArrayList<>(examples);
        changed.set(example, new Told(told.words, told.isRight, told.at, time));
        examples = changed;
        return true;
    }

    public int later(int by) {
        if (by < 0 || by > 1000 || time + by > 100000) {
            return NONE;
        }
        time += by;
        return time;
    }

    public int judge(int k) {
        for (int number = 0; number < examples.size(); number++) {
            Told told = examples.get(number);
            if (told.counts(k) && model.isSentence(told.words) != told.isRight) {
                return number;
            }
        }
        return NONE;
    }

    public int learnt(int word, int k) {
        if (word != NONE && !isWord(word)) {
            return -3;
        }
        if (model.words.size() > 4 || model.kinds > 2) {
            return -2;
        }
        List<List<Integer>> right = new ArrayList<>();
        List<List<Integer>> wrong = new ArrayList<>();
        for (Told told : examples) {
            if (told.counts(k)) {
                (told.isRight ? right : wrong).add(told.words);
            }
        }
        int[] learnt = model.learnt(right, wrong);
        return learnt == null ? NONE : learnt[word + 1];
    }

    public int image(int box) {
        if (box < 0 || box > 2) {
            return NONE;
        }
        boxes[box] = new Box(row, examples);
        return examples.size();
    }

    public int back(int box) {
        if (box < 0 || box > 2 || boxes[box] == null) {
            return NONE;
        }
        row = boxes[box].row;
        examples = boxes[box].examples;
        return examples.size();
    }

    public int about(int what) {
        int goalEnds = model.goal == null ? 0 : model.goal.slashes() + 1;
        int[] all = {model.kinds, model.words.size(), row.size(), examples.size(), time, tape.length(), goalEnds};
        return what < 0 || what >= all.length ? NONE : all[what];
    }

    /** How many choices of tags the ROW has, with so many words more of the most tags. */
    long choices(int more) {
        int most = 1;
        long product = 1;
        for (List<Model.T> tags : model.words) {
            most = Math.max(most, tags.size());
        }
        for (int word : row) {
            product *= model.words.get(word).size();
        }
        return product * (long) Math.pow(most, more);
    }

    List<String> names() {
        return text.words;
    }

    /** For the dice alone: rows of many choices are not looked at. */
    boolean isSentence(List<Integer> words) {
        return words.size() < 6 && !words.isEmpty() && model.isSentence(words);
    }

    int rowSize() {
        return row.size();
    }

    @Override
    public String toString() {
        return model.text() + " " + row + " " + Arrays.toString(boxes);
    }
}
