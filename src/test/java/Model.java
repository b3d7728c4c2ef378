import java.util.ArrayDeque;
import java.util.ArrayList;
import java.util.Arrays;
import java.util.Collections;
import java.util.Deque;
import java.util.HashMap;
import java.util.HashSet;
import java.util.List;
import java.util.Map;
import java.util.Set;

/**
 * The document's words, followed one by one with no thought of speed: every TYING is made and read from the goal,
 * every order, set of words and lexicon is tried. The tests hold the class against it.
 */
final class Model {
    /** A tag: a KIND, or a slash with its parts. */
    static final class T {
        final int kind;
        final char sign;
        final T ahead;
        final T behind;

        T(int kind) {
            this.kind = kind;
            sign = 0;
            ahead = null;
            behind = null;
        }

        T(char sign, T ahead, T behind) {
            kind = -1;
            this.sign = sign;
            this.ahead = ahead;
            this.behind = behind;
        }

        int slashes() {
            return sign == 0 ? 0 : 1 + ahead.slashes() + behind.slashes();
        }

        @Override
        public String toString() {
            return sign == 0 ? "" + (char) ('a' + kind) : "(" + ahead + sign + behind + ")";
        }
    }

    /** Something GIVEN (a word, a HOLE) or WANTED (an ARGUMENT, the goal), known by the end that it comes down to. */
    static final class Thing {
        final boolean given;
        final int kind;
        final int end;
        final Deque<Thing> parts = new ArrayDeque<>();
        Thing binder;
        int place = -1;
        int hole = -1;

        Thing(boolean given, int kind, int end) {
            this.given = given;
            this.kind = kind;
            this.end = end;
        }
    }

    static final class Reading {
        int[] chosen;
        int[] ties;
        List<Integer> meaning;
        int[] over;
    }

    int kinds;
    T goal;
    final List<List<T>> words = new ArrayList<>();
    /** Rows that were asked for: one and the same is asked for again and again. */
    private final Map<List<Integer>, Boolean> sentences = new HashMap<>();

    /** All tags of up to two slashes in the order of their NUMBERS. */
    List<T> numbered(int slashes) {
        List<List<T>> levels = new ArrayList<>();
        List<T> first = new ArrayList<>();
        for (int kind = 0; kind < kinds; kind++) {
            first.add(new T(kind));
        }
        levels.add(first);
        for (int level = 1; level <= slashes; level++) {
            List<T> made = new ArrayList<>();
            for (char sign : new char[] {'/', '\\'}) {
                for (int a = 0; a < level; a++) {
                    for (T ahead : levels.get(a)) {
                        for (T behind : levels.get(level - 1 - a)) {
                            made.add(new T(sign, ahead, behind));
                        }
                    }
                }
            }
            levels.add(made);
        }
        List<T> all = new ArrayList<>();
        levels.forEach(all::addAll);
        return all;
    }

    int numberOf(T tag) {
        if (tag.slashes() > 2) {
            return -2;
        }
        List<T> all = numbered(2);
        for (int i = 0; i < all.size(); i++) {
            if (all.get(i).toString().equals(tag.toString())) {
                return i;
            }
        }
        throw new IllegalStateException();
    }

    static Thing openGiven(T tag, List<Thing> ends) {
        if (tag.sign == 0) {
            Thing thing = new Thing(true, tag.kind, ends.size());
            ends.add(thing);
            return thing;
        }
        Thing thing;
        Thing argument;
        if (tag.sign == '/') {
            thing = openGiven(tag.ahead, ends);
            argument = openWanted(tag.behind, ends);
        } else {
            argument = openWanted(tag.ahead, ends);
            thing = openGiven(tag.behind, ends);
        }
        thing.parts.addFirst(argument);
        return thing;
    }

    static Thing openWanted(T tag, List<Thing> ends) {
        if (tag.sign == 0) {
            Thing thing = new Thing(false, tag.kind, ends.size());
            ends.add(thing);
            return thing;
        }
        Thing thing;
        Thing hole;
        if (tag.sign == '/') {
            hole = openGiven(tag.behind, ends);
            thing = openWanted(tag.ahead, ends);
        } else {
            thing = openWanted(tag.behind, ends);
            hole = openGiven(tag.ahead, ends);
        }
        hole.binder = thing;
        thing.parts.addFirst(hole);
        return thing;
    }

    /** The choices of a row: of each place a list of tags; the READINGS up to a limit. */
    List<Reading> readings(List<List<T>> row, T goal, int limit) {
        List<Reading> found = new ArrayList<>();
        if (row.isEmpty() || goal == null) {
            return found;
        }
        int[] chosen = new int[row.size()];
        do {
            List<Thing> ends = new ArrayList<>();
            for (int place = 0; place < chosen.length; place++) {
                openGiven(row.get(place).get(chosen[place]), ends).place = place;
            }
            Thing root = openWanted(goal, ends);
            if (ends.size() <= 20 && isEven(ends)) {
                int[] ties = new int[ends.size()];
                Arrays.fill(ties, -1);
                tie(ends, root, ties, chosen, found, limit);
            }
        } while (found.size() < limit && next(chosen, row));
        return found;
    }

    private static boolean next(int[] chosen, List<List<T>> row) {
        for (int place = chosen.length - 1; place >= 0; place--) {
            if (++chosen[place] < row.get(place).size()) {
                return true;
            }
            chosen[place] = 0;
        }
        return false;
    }

    boolean isEven(List<Thing> ends) {
        int[] sums = new int[5];
        for (Thing thing : ends) {
            sums[thing.kind] += thing.given ? 1 : -1;
        }
        return Arrays.stream(sums).allMatch(sum -> sum == 0);
    }

    private void tie(List<Thing> ends, Thing root, int[] ties, int[] chosen, List<Reading> found, int limit) {
        int first = 0;
        while (first < ties.length && ties[first] >= 0) {
            first++;
        }
        if (first == ties.length) {
            Reading reading = read(ends, root, ties, chosen);
            if (reading != null) {
                found.add(reading);
            }
            return;
        }
        for (int mate = first + 1; mate < ties.length && found.size() < limit; mate++) {
            Thing one = ends.get(first);
            Thing other = ends.get(mate);
            if (ties[mate] < 0 && one.kind == other.kind && one.given != other.given && !crosses(ties, first, mate)) {
                ties[first] = mate;
                ties[mate] = first;
                tie(ends, root, ties, chosen, found, limit);
                ties[first] = -1;
                ties[mate] = -1;
            }
        }
    }

    private static boolean crosses(int[] ties, int first, int mate) {
        int[] loose = new int[5];
        for (int i = first + 1; i < mate; i++) {
            if (ties[i] >= 0 && (ties[i] < first || ties[i] > mate)) {
                return true;
            }
            loose[0] += ties[i] < 0 ? 1 : 0;
        }
        return loose[0] % 2 != 0;
    }

    /** What is met below a thing wanted. */
    private static final class Met {
        final Set<Thing> words = new HashSet<>();
        final Set<Thing> holes = new HashSet<>();
        final Set<Thing> wanted = new HashSet<>();
    }

    private Reading read(List<Thing> ends, Thing root, int[] ties, int[] chosen) {
        Reading reading = new Reading();
        reading.meaning = new ArrayList<>();
        reading.over = new int[chosen.length];
        Arrays.fill(reading.over, -1);
        Set<Thing> come = new HashSet<>();
        int[] holes = {0};
        Met met = readWanted(ends, root, ties, reading, come, new ArrayList<>(), null, holes);
        long given = ends.stream().filter(thing -> thing.given).count();
        if (met == null || come.size() != given) {
            return null;
        }
        reading.chosen = chosen.clone();
        reading.ties = ties.clone();
        return reading;
    }

    private Met readWanted(List<Thing> ends, Thing wanted, int[] ties, Reading reading, Set<Thing> come,
            List<Thing> around, Thing above, int[] holes) {
        for (Thing hole : wanted.parts) {
            hole.hole = holes[0]++;
            reading.meaning.add(200 + hole.hole);
        }
        Thing given = ends.get(ties[wanted.end]);
        if (!come.add(given)) {
            return null;
        }
        List<Thing> within = new ArrayList<>(around);
        within.add(wanted);
        Met met = new Met();
        met.wanted.add(wanted);
        if (given.binder == null) {
            met.words.add(given);
            reading.meaning.add(given.place);
            reading.over[given.place] = above == null ? -1 : above.binder == null ? above.place : 100 + above.hole;
        } else {
            if (!within.contains(given.binder)) {
                return null;
            }
            met.holes.add(given);
            reading.meaning.add(100 + given.hole);
        }
        for (Thing argument : given.parts) {
            Met below = readWanted(ends, argument, ties, reading, come, within, given, holes);
            if (below == null) {
                return null;
            }
            met.words.addAll(below.words);
            met.holes.addAll(below.holes);
            met.wanted.addAll(below.wanted);
        }
        boolean holds = !met.words.isEmpty();
        for (Thing hole : met.holes) {
            holds |= !met.wanted.contains(hole.binder);
        }
        return holds ? met : null;
    }

    boolean isSentence(List<List<T>> row, T goal) {
        return !readings(row, goal, 1).isEmpty();
    }

    boolean isSentence(List<Integer> row) {
        Boolean known = sentences.get(row);
        if (known == null) {
            known = isSentence(tagsOf(row), goal);
            sentences.put(new ArrayList<>(row), known);
        }
        return known;
    }

    List<List<T>> tagsOf(List<Integer> row) {
        List<List<T>> tags = new ArrayList<>();
        for (int word : row) {
            tags.add(words.get(word));
        }
        return tags;
    }

    int even(List<Integer> row) {
        if (row.isEmpty()) {
            return 0;
        }
        List<List<T>> tags = tagsOf(row);
        int[] chosen = new int[row.size()];
        int count = 0;
        do {
            List<Thing> ends = new ArrayList<>();
            for (int place = 0; place < chosen.length; place++) {
                openGiven(tags.get(place).get(chosen[place]), ends);
            }
            openWanted(goal, ends);
            count += isEven(ends) ? 1 : 0;
        } while (next(chosen, tags));
        return count;
    }

    int lacks(List<Integer> row, int kind) {
        List<List<T>> tags = tagsOf(row);
        int[] chosen = new int[row.size()];
        int least = Integer.MAX_VALUE;
        do {
            List<Thing> ends = new ArrayList<>();
            for (int place = 0; place < chosen.length; place++) {
                openGiven(tags.get(place).get(chosen[place]), ends);
            }
            openWanted(goal, ends);
            int lack = 0;
            for (Thing thing : ends) {
                lack += thing.kind != kind ? 0 : thing.given ? -1 : 1;
            }
            least = Math.min(least, lack);
        } while (next(chosen, tags));
        return least;
    }

    int lost(List<Integer> row) {
        int best = -1;
        for (int set = 0; set < (1 << row.size()) - 1; set++) {
            List<Integer> rest = new ArrayList<>();
            for (int place = 0; place < row.size(); place++) {
                if ((set >> place & 1) == 0) {
                    rest.add(row.get(place));
                }
            }
            if ((best < 0 || Integer.bitCount(set) < Integer.bitCount(best)) && isSentence(rest)) {
                best = set;
            }
        }
        return best;
    }

    /** Pairs and order. */
    int[] mended(List<Integer> row) {
        int[] best = {-1, -1};
        List<Integer> order = new ArrayList<>();
        for (int i = 0; i < row.size(); i++) {
            order.add(i);
        }
        permute(row, order, 0, best);
        return best;
    }

    private void permute(List<Integer> row, List<Integer> order, int from, int[] best) {
        if (from == order.size()) {
            int pairs = 0;
            int digits = 0;
            List<Integer> words = new ArrayList<>();
            for (int i = 0; i < order.size(); i++) {
                digits = digits * 10 + order.get(i) + 1;
                words.add(row.get(order.get(i)));
                for (int j = 0; j < i; j++) {
                    pairs += order.get(j) > order.get(i) ? 1 : 0;
                }
            }
            boolean better = best[0] < 0 || pairs < best[0] || pairs == best[0] && digits < best[1];
            if (better && isSentence(words)) {
                best[0] = pairs;
                best[1] = digits;
            }
            return;
        }
        for (int i = from; i < order.size(); i++) {
            Collections.swap(order, from, i);
            permute(row, order, from + 1, best);
            Collections.swap(order, from, i);
        }
    }

    /** How many, and the least NUMBER. */
    int[] could(List<Integer> row, int place, int slashes) {
        List<T> all = numbered(slashes);
        int[] answer = {0, -1};
        for (int number = 0; number < all.size(); number++) {
            List<List<T>> tags = tagsOf(row);
            tags.set(place, List.of(all.get(number)));
            if (isSentence(tags, goal)) {
                answer[0]++;
                answer[1] = answer[1] < 0 ? number : answer[1];
            }
        }
        return answer;
    }

    int span(List<Integer> row, int from, int to, int kind) {
        return isSentence(tagsOf(row.subList(from, to + 1)), new T(kind)) ? 1 : 0;
    }

    int[] added(List<Integer> row) {
        int[] none = {-1, -1, -1, -1, -1};
        if (row.isEmpty()) {
            return none;
        }
        if (isSentence(row)) {
            return new int[] {0, -1, -1, -1, -1};
        }
        for (int p = 0; p <= row.size() && row.size() < 8; p++) {
            for (int w = 0; w < words.size(); w++) {
                if (isSentence(with(row, p, w))) {
                    return new int[] {1, p, -1, w, -1};
                }
            }
        }
        for (int p = 0; p <= row.size() && row.size() < 7; p++) {
            for (int w = 0; w < words.size(); w++) {
                List<Integer> one = with(row, p, w);
                for (int q = 0; q <= one.size(); q++) {
                    for (int v = 0; v < words.size(); v++) {
                        if (isSentence(with(one, q, v))) {
                            return new int[] {2, p, q, w, v};
                        }
                    }
                }
            }
        }
        return none;
    }

    private static List<Integer> with(List<Integer> row, int place, int word) {
        List<Integer> more = new ArrayList<>(row);
        more.add(place, word);
        return more;
    }

    int inPlace(List<Integer> row, int place) {
        int set = 0;
        for (int word = 0; word < words.size(); word++) {
            List<Integer> other = new ArrayList<>(row);
            other.set(place, word);
            set |= isSentence(other) ? 1 << word : 0;
        }
        return set;
    }

    /** Slashes in all, then the NUMBERS; null if there is no such lexicon. */
    int[] learnt(List<List<Integer>> right, List<List<Integer>> wrong) {
        List<T> all = numbered(1);
        int[] best = null;
        int[] numbers = new int[words.size()];
        boolean more = true;
        while (more) {
            int slashes = 0;
            for (int number : numbers) {
                slashes += all.get(number).slashes();
            }
            if ((best == null || slashes < best[0]) && fits(right, wrong, all, numbers)) {
                best = new int[1 + numbers.length];
                best[0] = slashes;
                System.arraycopy(numbers, 0, best, 1, numbers.length);
            }
            int i = numbers.length - 1;
            while (i >= 0 && ++numbers[i] == all.size()) {
                numbers[i] = 0;
                i--;
            }
            more = i >= 0;
        }
        return best;
    }

    private boolean fits(List<List<Integer>> right, List<List<Integer>> wrong, List<T> all, int[] numbers) {
        for (List<Integer> row : right) {
            if (!isSentence(tagged(row, all, numbers), goal)) {
                return false;
            }
        }
        for (List<Integer> row : wrong) {
            if (isSentence(tagged(row, all, numbers), goal)) {
                return false;
            }
        }
        return true;
    }

    private static List<List<T>> tagged(List<Integer> row, List<T> all, int[] numbers) {
        List<List<T>> tags = new ArrayList<>();
        for (int word : row) {
            tags.add(List.of(all.get(numbers[word])));
        }
        return tags;
    }

    /** The text of this lexicon, KINDS called a, b, .. and WORDS wa, wb, ... */
    String text() {
        StringBuilder text = new StringBuilder();
        for (int kind = 0; kind < kinds; kind++) {
            text.append("kind ").append((char) ('a' + kind)).append(";");
        }
        for (int word = 0; word < words.size(); word++) {
            text.append("word ").append(nameOf(word)).append(" is ");
            for (int tag = 0; tag < words.get(word).size(); tag++) {
                text.append(tag == 0 ? "" : " or ").append(words.get(word).get(tag));
            }
            text.append(";");
        }
        return text.append("goal ").append(goal).append(";").toString();
    }

    static String nameOf(int word) {
        return "w" + (char) ('a' + word);
    }

    static String textOf(List<Integer> row) {
        StringBuilder text = new StringBuilder();
        for (int word : row) {
            text.append(nameOf(word)).append(" ");
        }
        return text.toString();
    }
}
