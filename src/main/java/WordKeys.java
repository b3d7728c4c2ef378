import java.util.Arrays;

/**
 * Words as keys: tags opened into ends, ends tied two by two, readings and what they mean.
 * The document's words in capitals are meant where names here look like them.
 */
public final class WordKeys {
    public static final int NONE = -1;

    private static final int SPENT = -2;
    private static final int NO_SUCH_WORD = -3;
    private static final int NO_SUCH_KIND = -1000;
    private static final int BOXES = 3;
    private static final int LONGEST_STEP = 1000;
    private static final int LAST_TIME = 100000;
    /** Above 3 to the 8th, the most choices that a ROW can have. */
    private static final int MOST_CHOICES = 10000;

    private final Tape tape;
    private final Reader reader;
    private final Opened opened;
    private final Trial trial;
    private final Readings readings;
    private final Repair repair;
    private final Learner learner;
    private final Notes notes;
    private final Notes[] boxes;
    private Lexicon lexicon;
    private Lexicon spare;
    private int time;

    public WordKeys() {
        tape = new Tape();
        reader = new Reader(tape);
        lexicon = new Lexicon();
        spare = new Lexicon();
        opened = new Opened();
        trial = new Trial(opened);
        notes = new Notes();
        boxes = new Notes[] {new Notes(), new Notes(), new Notes()};
        readings = new Readings(trial, notes);
        repair = new Repair(opened, trial, notes);
        learner = new Learner(opened, trial, notes);
    }

    public int feed(int a, int b, int c, int d, int e) {
        if (!tape.hasRoomForFive()) {
            return NONE;
        }
        tape.addNumber(a);
        tape.addNumber(b);
        tape.addNumber(c);
        tape.addNumber(d);
        tape.addNumber(e);
        return tape.count;
    }

    public int end(int n) {
        return tape.cut(n) ? n : NONE;
    }

    public int lexicon() {
        boolean isGood = reader.readLexicon(spare);
        tape.cut(0);
        if (!isGood) {
            return NONE;
        }
        Lexicon old = lexicon;
        lexicon = spare;
        spare = old;
        opened.openAll(lexicon);
        notes.clear();
        for (int box = 0; box < BOXES; box++) {
            boxes[box].isKept = false;
        }
        learner.forget();
        forgetRow();
        return lexicon.words;
    }

    public int row() {
        boolean isGood = reader.readRow(lexicon, notes);
        tape.cut(0);
        if (!isGood) {
            return NONE;
        }
        forgetRow();
        return notes.rowCount;
    }

    public int fault(int what) {
        if (what == 0) {
            return reader.fault;
        }
        return what == 1 ? reader.place : NONE;
    }

    public int tags(int word) {
        return isWord(word) ? lexicon.tagCounts[word] : NONE;
    }

    public int number(int word, int tag) {
        if (!isWord(word) || tag < 0 || tag >= lexicon.tagCounts[word]) {
            return NONE;
        }
        return Tag.numberOf(lexicon.tagAt(word, tag), lexicon.kinds);
    }

    public int at(int place) {
        return isPlace(place) ? notes.row[place] : NONE;
    }

    public int readings() {
        readings.find();
        return readings.isSpent ? SPENT : readings.count;
    }

    public int chosen(int reading, int place) {
        readings.find();
        return isPlace(place) ? readings.value(reading, Readings.CHOSEN, place) : unread();
    }

    public int tied(int reading, int end) {
        readings.find();
        boolean isEnd = end >= 0 && end < Strings.MOST;
        return isEnd ? readings.value(reading, Readings.TIES, end) : unread();
    }

    public int meaning(int reading, int i) {
        readings.find();
        boolean isStep = i >= 0 && i < Readings.LONGEST_MEANING;
        return isStep ? readings.value(reading, Readings.MEANING, i) : unread();
    }

    public int same(int reading) {
        readings.find();
        return readings.isSpent ? SPENT : readings.firstLike(reading);
    }

    public int even() {
        if (notes.rowCount == 0) {
            return 0;
        }
        trial.beginWithRow(notes);
        return trial.countEven(MOST_CHOICES);
    }

    public int lost() {
        return repair.leastLeftOut();
    }

    public int mended(int what) {
        if (what < 0 || what > 1 || notes.rowCount == 0) {
            return NONE;
        }
        if (notes.rowCount > Repair.MOST_ORDERED) {
            return SPENT;
        }
        repair.findOrder();
        return what == 0 ? repair.orderPairs : repair.orderDigits;
    }

    public int could(int place, int n, int what) {
        if (!isPlace(place) || n < 0 || n > 2 || what < 0 || what > 1) {
            return NONE;
        }
        return what == 0 ? repair.countTags(place, n) : repair.leastTag(place, n);
    }

    public int span(int from, int to, int kind) {
        if (!isPlace(from) || !isPlace(to) || to < from || kind < 0 || kind >= lexicon.kinds) {
            return NONE;
        }
        return repair.isSpan(from, to, kind) ? 1 : 0;
    }

    public int added(int what) {
        if (what < 0 || what > 4) {
            return NONE;
        }
        repair.findPutIn();
        return repair.putIn[what];
    }

    public int inPlace(int place) {
        return isPlace(place) ? repair.wordsFor(place) : NONE;
    }

    public int lacks(int kind) {
        if (kind < 0 || kind >= lexicon.kinds) {
            return NO_SUCH_KIND;
        }
        long most = opened.highs[Opened.GOAL];
        for (int place = 0; place < notes.rowCount; place++) {
            most += opened.highs[Opened.firstSlot(notes.row[place])];
        }
        return -Opened.givenOf(most, kind);
    }

    public int over(int reading, int place) {
        readings.find();
        return isPlace(place) ? readings.value(reading, Readings.OVERS, place) : unread();
    }

    public int example(boolean right) {
        return notes.tell(right, time);
    }

    public boolean untell(int example) {
        return notes.takeBack(example, time);
    }

    public int later(int by) {
        if (by < 0 || by > LONGEST_STEP || time + by > LAST_TIME) {
            return NONE;
        }
        time += by;
        return time;
    }

    public int judge(int k) {
        for (int number = 0; number < notes.examples; number++) {
            if (notes.counts(number, k) && isJudgedWrong(number)) {
                return number;
            }
        }
        return NONE;
    }

    public int learnt(int word, int k) {
        if (word != NONE && !isWord(word)) {
            return NO_SUCH_WORD;
        }
        if (lexicon.words > Learner.MOST_WORDS || lexicon.kinds > Learner.MOST_KINDS) {
            return SPENT;
        }
        learner.find(k);
        if (!learner.isFound) {
            return NONE;
        }
        return word == NONE ? learner.slashes : learner.numbers[word];
    }

    public int image(int box) {
        if (box < 0 || box >= BOXES) {
            return NONE;
        }
        boxes[box].copyFrom(notes);
        boxes[box].isKept = true;
        return notes.examples;
    }

    public int back(int box) {
        if (box < 0 || box >= BOXES || !boxes[box].isKept) {
            return NONE;
        }
        notes.copyFrom(boxes[box]);
        learner.forget();
        forgetRow();
        return notes.examples;
    }

    public int about(int what) {
        switch (what) {
            case 0: return lexicon.kinds;
            case 1: return lexicon.words;
            case 2: return notes.rowCount;
            case 3: return notes.examples;
            case 4: return time;
            case 5: return tape.count;
            case 6: return opened.sizes[Opened.GOAL];
            default: return NONE;
        }
    }

    private boolean isWord(int word) {
        return word >= 0 && word < lexicon.words;
    }

    private boolean isPlace(int place) {
        return place >= 0 && place < notes.rowCount;
    }

    /** The answer about a part that no READING has. */
    private int unread() {
        return readings.isSpent ? SPENT : NONE;
    }

    private void forgetRow() {
        readings.forget();
        repair.forget();
    }

    private boolean isJudgedWrong(int number) {
        trial.begin(Opened.GOAL);
        for (int i = 0; i < notes.lengths[number]; i++) {
            trial.addWord(notes.wordOf(number, i));
        }
        return trial.search(null) != notes.isRight(number);
    }

    /** The bytes that have come, and the TOKENS that stand on them. */
    private static final class Tape {
        static final int MOST = 1600;
        static final int LONGEST_WORD = 8;
        static final String SIGNS = ";()/\\";
        /** Sorts of TOKENS; a sign is its own sort. */
        static final int END = 0;
        static final int WORD = 1;
        static final int NO_TOKEN = 2;

        final byte[] bytes = new byte[MOST];
        int count;
        int sort;
        int place;
        /** The letters of a word, five bits each. */
        long name;
        int after;

        boolean hasRoomForFive() {
            return count + 20 <= MOST;
        }

        void addNumber(int number) {
            for (int shift = 24; shift >= 0 && count < MOST; shift -= 8) {
                bytes[count] = (byte) (number >> shift);
                count++;
            }
        }

        boolean cut(int n) {
            if (n < 0 || n > count) {
                return false;
            }
            count = n;
            return true;
        }

        void rewind() {
            after = 0;
            next();
        }

        void next() {
            int from = after;
            while (from < count && (bytes[from] == ' ' || bytes[from] == '\n')) {
                from++;
            }
            place = from;
            after = from;
            name = 0;
            while (after < count && after < from + LONGEST_WORD && bytes[after] >= 'a' && bytes[after] <= 'z') {
                name = name * 32 + bytes[after] - 'a' + 1;
                after++;
            }
            if (after > from) {
                sort = WORD;
            } else if (from >= count) {
                sort = END;
            } else {
                sort = SIGNS.indexOf((char) (bytes[from] & 255)) >= 0 ? bytes[from] : NO_TOKEN;
                after++;
            }
        }
    }

    /** What a LEXICON's text told. */
    private static final class Lexicon {
        static final int MOST_KINDS = 5;
        static final int MOST_WORDS = 12;
        static final int MOST_TAGS = 3;

        final long[] kindNames = new long[MOST_KINDS];
        final long[] wordNames = new long[MOST_WORDS];
        final int[] tagCounts = new int[MOST_WORDS];
        final int[] tagsOfWords = new int[MOST_WORDS * MOST_TAGS];
        int kinds;
        int words;
        int goal = NONE;

        void clear() {
            kinds = 0;
            words = 0;
            goal = NONE;
        }

        int kindCalled(long name) {
            for (int kind = 0; kind < kinds; kind++) {
                if (kindNames[kind] == name) {
                    return kind;
                }
            }
            return NONE;
        }

        int wordCalled(long name) {
            for (int word = 0; word < words; word++) {
                if (wordNames[word] == name) {
                    return word;
                }
            }
            return NONE;
        }

        void addKind(long name) {
            if (kinds < MOST_KINDS) {
                kindNames[kinds] = name;
                kinds++;
            }
        }

        void addWord(long name) {
            if (words < MOST_WORDS) {
                wordNames[words] = name;
                tagCounts[words] = 0;
                words++;
            }
        }

        boolean hasRoomForTag() {
            return words > 0 && tagCounts[words - 1] < MOST_TAGS;
        }

        /** A tag of the word that was told last. */
        void addTag(int tag) {
            if (hasRoomForTag()) {
                int word = words - 1;
                tagsOfWords[word * MOST_TAGS + tagCounts[word]] = tag;
                tagCounts[word]++;
            }
        }

        int tagAt(int word, int tag) {
            return tagsOfWords[word * MOST_TAGS + tag];
        }
    }

    /** Reads the TAPE as a LEXICON or a ROW; the first FAULT ends it. */
    private static final class Reader {
        static final int NO_TOKEN = 1;
        static final int MISPLACED = 2;
        static final int TOLD_ALREADY = 3;
        static final int NOT_TOLD = 5;
        static final int DEEPEST = 3;
        static final int MOST_KINDS_OF_TAG = 4;
        /** The words that stand for themselves, packed as the TAPE packs names. */
        static final long KIND = ((11L * 32 + 9) * 32 + 14) * 32 + 4;
        static final long GOAL = ((7L * 32 + 15) * 32 + 1) * 32 + 12;
        static final long WORD = ((23L * 32 + 15) * 32 + 18) * 32 + 4;
        static final long IS = 9L * 32 + 19;
        static final long OR = 15L * 32 + 18;

        final Tape tape;
        /** A ROW that may yet turn out to be none. */
        final int[] line = new int[Notes.MOST_WORDS];
        int fault;
        int place = NONE;
        int kindsOfTag;

        Reader(Tape tape) {
            this.tape = tape;
        }

        boolean readLexicon(Lexicon into) {
            begin();
            into.clear();
            for (int lines = 0; lines < Tape.MOST && isOpen(); lines++) {
                readLine(into);
            }
            return fault == 0;
        }

        boolean readRow(Lexicon lexicon, Notes into) {
            begin();
            int count = 0;
            for (int words = 0; words < Tape.MOST && isOpen(); words++) {
                int word = lexicon.wordCalled(tape.name);
                if (!isName() || count >= Notes.MOST_WORDS) {
                    refuse(MISPLACED);
                } else if (word == NONE) {
                    refuse(NOT_TOLD);
                } else {
                    line[count] = word;
                    count++;
                    tape.next();
                }
            }
            if (fault == 0) {
                into.setRow(line, count);
            }
            return fault == 0;
        }

        private void begin() {
            fault = 0;
            place = NONE;
            tape.rewind();
        }

        private boolean isOpen() {
            return fault == 0 && tape.sort != Tape.END;
        }

        private void readLine(Lexicon into) {
            if (isKeyword(KIND) && into.kinds < Lexicon.MOST_KINDS) {
                readKind(into);
            } else if (isKeyword(GOAL) && into.goal == NONE) {
                tape.next();
                into.goal = readTag(into, 0);
            } else if (isKeyword(WORD) && into.words < Lexicon.MOST_WORDS) {
                readWord(into);
            } else {
                refuse(MISPLACED);
            }
            if (fault == 0) {
                pass(tape.sort == ';');
            }
        }

        private void readKind(Lexicon into) {
            tape.next();
            long name = tape.name;
            if (passNewName(into)) {
                into.addKind(name);
            }
        }

        /** A 4th or is left standing, where only the line's end can. */
        private void readWord(Lexicon into) {
            tape.next();
            long name = tape.name;
            if (!passNewName(into) || !pass(isKeyword(IS))) {
                return;
            }
            into.addWord(name);
            into.addTag(readTag(into, 0));
            for (int tags = 1; tags < Lexicon.MOST_TAGS && fault == 0 && isKeyword(OR); tags++) {
                tape.next();
                into.addTag(readTag(into, 0));
            }
        }

        private boolean passNewName(Lexicon into) {
            if (isName() && (into.kindCalled(tape.name) != NONE || into.wordCalled(tape.name) != NONE)) {
                return refuse(TOLD_ALREADY);
            }
            return pass(isName());
        }

        /** A T that stands within so many brackets. */
        private int readTag(Lexicon into, int depth) {
            kindsOfTag = depth == 0 ? 0 : kindsOfTag;
            int ahead = readUnit(into, depth);
            if (fault != 0 || (tape.sort != '/' && tape.sort != '\\')) {
                return ahead;
            }
            int sign = tape.sort == '/' ? Tag.SLASH : Tag.BACKSLASH;
            tape.next();
            int behind = readUnit(into, depth);
            return fault == 0 ? Tag.join(sign, ahead, behind) : NONE;
        }

        private int readUnit(Lexicon into, int depth) {
            if (tape.sort != '(') {
                return readKindOfTag(into);
            }
            if (!pass(depth <= DEEPEST)) {
                return NONE;
            }
            int part = readTag(into, depth + 1);
            return fault == 0 && pass(tape.sort == ')') ? part : NONE;
        }

        private int readKindOfTag(Lexicon into) {
            int kind = into.kindCalled(tape.name);
            if (!isName() || kindsOfTag >= MOST_KINDS_OF_TAG) {
                refuse(MISPLACED);
                return NONE;
            }
            if (kind == NONE) {
                refuse(NOT_TOLD);
                return NONE;
            }
            kindsOfTag++;
            tape.next();
            return Tag.ofKind(kind);
        }

        private boolean isKeyword(long word) {
            return tape.sort == Tape.WORD && tape.name == word;
        }

        private boolean isName() {
            return tape.sort == Tape.WORD && tape.name != KIND && tape.name != GOAL
                && tape.name != WORD && tape.name != IS && tape.name != OR;
        }

        /** Goes on behind a TOKEN that can stand here, refuses another. */
        private boolean pass(boolean canStand) {
            if (!canStand) {
                return refuse(MISPLACED);
            }
            tape.next();
            return true;
        }

        private boolean refuse(int least) {
            fault = tape.sort == Tape.NO_TOKEN ? NO_TOKEN : least;
            place = tape.place;
            return false;
        }
    }

    /** Tags as ints: from the outermost sign on three bits for each sign or KIND, and how many in the highest byte. */
    private static final class Tag {
        static final int SLASH = 5;
        static final int BACKSLASH = 6;
        static final int MOST_NODES = 7;
        static final int LENGTH = 24;
        static final int MOST_NUMBERED_SLASHES = 2;

        static int ofKind(int kind) {
            return kind | 1 << LENGTH;
        }

        static int join(int sign, int ahead, int behind) {
            int nodesAhead = ahead >> LENGTH;
            int length = 1 + nodesAhead + (behind >> LENGTH);
            int mask = (1 << LENGTH) - 1;
            return sign | (ahead & mask) << 3 | (behind & mask) << 3 + 3 * nodesAhead | length << LENGTH;
        }

        static int nodeAt(int tag, int node) {
            return tag >> 3 * node & 7;
        }

        /** The node behind the part that begins at a node. */
        static int behind(int tag, int node) {
            int open = 1;
            int i = node;
            while (open > 0 && i < MOST_NODES) {
                open += nodeAt(tag, i) < SLASH ? -1 : 1;
                i++;
            }
            return i;
        }

        static int numberOf(int tag, int kinds) {
            int slashes = (tag >> LENGTH) / 2;
            if (slashes > MOST_NUMBERED_SLASHES) {
                return SPENT;
            }
            if (slashes < MOST_NUMBERED_SLASHES) {
                return simpleNumber(tag, 0, kinds);
            }
            int withOne = 2 * kinds * kinds;
            int from = kinds + withOne + (nodeAt(tag, 0) == SLASH ? 0 : 2 * kinds * withOne);
            if (nodeAt(tag, 1) < SLASH) {
                return from + nodeAt(tag, 1) * withOne + simpleNumber(tag, 2, kinds) - kinds;
            }
            return from + kinds * withOne + (simpleNumber(tag, 1, kinds) - kinds) * kinds + nodeAt(tag, 4);
        }

        /** The NUMBER of a part of one slash at most. */
        private static int simpleNumber(int tag, int node, int kinds) {
            int first = nodeAt(tag, node);
            if (first < SLASH) {
                return first;
            }
            int from = first == SLASH ? kinds : kinds + kinds * kinds;
            return from + nodeAt(tag, node + 1) * kinds + nodeAt(tag, node + 2);
        }

        static int howMany(int slashes, int kinds) {
            int withOne = 2 * kinds * kinds;
            if (slashes == 0) {
                return kinds;
            }
            return slashes == 1 ? kinds + withOne : kinds + withOne + 4 * kinds * withOne;
        }

        static int ofNumber(int number, int kinds) {
            int withOne = 2 * kinds * kinds;
            if (kinds < 1 || number < kinds + withOne) {
                return ofSimple(number, kinds);
            }
            int half = kinds * withOne;
            int rest = number - kinds - withOne;
            int sign = rest < 2 * half ? SLASH : BACKSLASH;
            rest = rest < 2 * half ? rest : rest - 2 * half;
            if (rest < half) {
                return join(sign, ofKind(rest / withOne), ofSimple(kinds + rest % withOne, kinds));
            }
            rest -= half;
            return join(sign, ofSimple(kinds + rest / kinds, kinds), ofKind(rest % kinds));
        }

        private static int ofSimple(int number, int kinds) {
            if (kinds < 1 || number < kinds) {
                return ofKind(number);
            }
            int square = kinds * kinds;
            int sign = number - kinds < square ? SLASH : BACKSLASH;
            int rest = (number - kinds) % square;
            return join(sign, ofKind(rest / kinds), ofKind(rest % kinds));
        }
    }

    /**
     * Tags opened into ENDS, one slot each. An end is the head of what is GIVEN or WANTED; what hangs on it
     * (ARGUMENTS of the one, HOLES of the other) are its children, the outermost slash first.
     */
    private static final class Opened {
        static final int MOST = 4;
        static final int GOAL = Lexicon.MOST_WORDS * Lexicon.MOST_TAGS;
        static final int KIND_GOALS = GOAL + 1;
        static final int TRIED = KIND_GOALS + Lexicon.MOST_KINDS;
        static final int LEARNT = TRIED + 1;
        static final int MOST_LEARNT = 10;
        static final int SLOTS = LEARNT + MOST_LEARNT;
        /** Sums hold for each KIND eight bits, GIVEN less WANTED, and how many ends above; this makes none negative. */
        static final long BIAS = 0x4040404040L;
        static final int FIELD = 8;
        static final int SIZE = 48;

        final int[] sizes = new int[SLOTS];
        final long[] sums = new long[SLOTS];
        /** For the first slot of a word: of each KIND the least and the most that one of its tags gives. */
        final long[] lows = new long[SLOTS];
        final long[] highs = new long[SLOTS];
        /** Of each end twice its KIND, and 1 if it is WANTED. */
        final int[] marks = new int[SLOTS * MOST];
        final int[] parents = new int[SLOTS * MOST];
        final int[] children = new int[SLOTS * MOST];
        final int[] siblings = new int[SLOTS * MOST];
        final int[] tagCounts = new int[Lexicon.MOST_WORDS];
        int kinds;
        int words;

        static int firstSlot(int word) {
            return word * Lexicon.MOST_TAGS;
        }

        void openAll(Lexicon lexicon) {
            kinds = lexicon.kinds;
            words = lexicon.words;
            for (int word = 0; word < words; word++) {
                openWord(lexicon, word);
            }
            for (int kind = 0; kind < kinds; kind++) {
                open(KIND_GOALS + kind, Tag.ofKind(kind), true);
            }
            sizes[GOAL] = 0;
            if (kinds > 0) {
                open(GOAL, lexicon.goal == NONE ? Tag.ofKind(0) : lexicon.goal, true);
            }
            int learnt = Math.min(Tag.howMany(1, kinds), MOST_LEARNT);
            for (int number = 0; number < learnt; number++) {
                open(LEARNT + number, Tag.ofNumber(number, kinds), false);
            }
        }

        private void openWord(Lexicon lexicon, int word) {
            int first = firstSlot(word);
            tagCounts[word] = lexicon.tagCounts[word];
            for (int tag = 0; tag < tagCounts[word]; tag++) {
                open(first + tag, lexicon.tagAt(word, tag), false);
            }
            long low = 0;
            long high = 0;
            for (int kind = 0; kind < kinds; kind++) {
                int least = givenOf(sums[first], kind);
                int most = least;
                for (int tag = 1; tag < tagCounts[word]; tag++) {
                    least = Math.min(least, givenOf(sums[first + tag], kind));
                    most = Math.max(most, givenOf(sums[first + tag], kind));
                }
                low += (long) least << FIELD * kind;
                high += (long) most << FIELD * kind;
            }
            lows[first] = low;
            highs[first] = high;
        }

        void open(int slot, int tag, boolean isWanted) {
            sizes[slot] = 0;
            sums[slot] = 0;
            openPart(slot, tag, 0, isWanted);
            lows[slot] = sums[slot];
            highs[slot] = sums[slot];
            sums[slot] += (long) sizes[slot] << SIZE;
        }

        /** The head of the part that begins at a node; what is WANTED is opened the other way about. */
        private int openPart(int slot, int tag, int node, boolean isWanted) {
            int sign = Tag.nodeAt(tag, node);
            if (sign < Tag.SLASH || node + 2 >= Tag.MOST_NODES) {
                return addEnd(slot, sign, isWanted);
            }
            int behind = Tag.behind(tag, node + 1);
            int result = sign == Tag.SLASH ? node + 1 : behind;
            int wish = sign == Tag.SLASH ? behind : node + 1;
            boolean isResultFirst = (sign == Tag.SLASH) != isWanted;
            int head = NONE;
            if (isResultFirst) {
                head = openPart(slot, tag, result, isWanted);
            }
            int child = openPart(slot, tag, wish, !isWanted);
            if (!isResultFirst) {
                head = openPart(slot, tag, result, isWanted);
            }
            int base = slot * MOST;
            parents[base + child] = head;
            siblings[base + child] = children[base + head];
            children[base + head] = child;
            return head;
        }

        private int addEnd(int slot, int kind, boolean isWanted) {
            int end = Math.min(sizes[slot], MOST - 1);
            int i = slot * MOST + end;
            marks[i] = 2 * kind + (isWanted ? 1 : 0);
            parents[i] = NONE;
            children[i] = NONE;
            siblings[i] = NONE;
            sizes[slot] = end + 1;
            sums[slot] += (isWanted ? -1L : 1L) << FIELD * kind;
            return end;
        }

        static int givenOf(long sum, int kind) {
            return (int) (sum + BIAS >> FIELD * kind & 127) - 64;
        }

        static int sizeOf(long sum) {
            return (int) (sum + BIAS >> SIZE);
        }
    }

    /** The ENDS of a choice, laid one behind the other, and the strings between them. */
    private static final class Strings {
        static final int MOST = 20;
        static final int MARKS = 2 * Lexicon.MOST_KINDS;

        final Opened opened;
        final int[] marks = new int[MOST];
        final int[] parents = new int[MOST];
        final int[] children = new int[MOST];
        final int[] siblings = new int[MOST];
        /** The place of the word an end is of; NONE of the goal's. */
        final int[] places = new int[MOST];
        final int[] partners = new int[MOST];
        /** Of each mark the ends that have it, as bits. */
        final int[] holders = new int[MARKS];
        /** The ends, as bits, from which on all up to here (not this one) can be tied without a crossing. */
        final int[] flatFrom = new int[MOST + 1];
        int count;

        Strings(Opened opened) {
            this.opened = opened;
            flatFrom[0] = 1;
            Arrays.fill(partners, NONE);
        }

        void lay(int slot, int place) {
            int base = count;
            int size = opened.sizes[slot];
            if (base + size > MOST) {
                return;
            }
            for (int i = 0; i < size; i++) {
                int from = slot * Opened.MOST + i;
                marks[count] = opened.marks[from];
                parents[count] = moved(opened.parents[from], base);
                children[count] = moved(opened.children[from], base);
                siblings[count] = moved(opened.siblings[from], base);
                places[count] = place;
                stretch();
            }
        }

        private static int moved(int end, int base) {
            return end == NONE ? NONE : base + end;
        }

        private void stretch() {
            int mark = marks[count];
            int mates = flatFrom[count] >> 1 & holders[mark ^ 1];
            int reached = 2 << count;
            for (int mate = count - 1; mate >= 0; mate -= 2) {
                if ((mates >> mate & 1) != 0) {
                    reached |= flatFrom[mate];
                }
            }
            holders[mark] |= 1 << count;
            count++;
            flatFrom[count] = reached;
        }

        void liftTo(int before) {
            count = before;
            int mask = (1 << before) - 1;
            for (int mark = 0; mark < MARKS; mark++) {
                holders[mark] &= mask;
            }
        }

        boolean isFlat() {
            return (flatFrom[count] & 1) != 0;
        }

        /**
         * Ties the first loose end and those behind it in every RIGHT way, in order; true ends the search:
         * the keeper wants no more, or one was found and there is no keeper.
         */
        boolean tieFrom(int start, Readings keeper) {
            int left = start;
            while (left < count && partners[left] != NONE) {
                left++;
            }
            if (left >= count) {
                return isRight() && (keeper == null || keeper.keep());
            }
            int stop = left + 1;
            while (stop < count && partners[stop] == NONE) {
                stop++;
            }
            for (int mate = left + 1; mate < stop; mate += 2) {
                if (leavesFlat(left, mate, stop) && mayTie(left, mate)) {
                    partners[left] = mate;
                    partners[mate] = left;
                    boolean isOver = tieFrom(left + 1, keeper);
                    partners[left] = NONE;
                    partners[mate] = NONE;
                    if (isOver) {
                        return true;
                    }
                }
            }
            return false;
        }

        private boolean leavesFlat(int left, int mate, int stop) {
            return (marks[left] ^ marks[mate]) == 1
                && (flatFrom[mate] >> left + 1 & 1) != 0
                && (flatFrom[stop] >> mate + 1 & 1) != 0;
        }

        /** Looks from the WANTED end outwards as far as it is tied: a ring, or a HOLE out of its place, is no good. */
        private boolean mayTie(int one, int other) {
            int wanted = (marks[one] & 1) != 0 ? one : other;
            int given = one + other - wanted;
            int binder = parents[given];
            if (wanted == binder && children[given] == NONE) {
                return false;
            }
            int end = wanted;
            for (int steps = 0; steps <= count; steps++) {
                int up = parents[end];
                if (end == binder) {
                    return true;
                }
                if (up == NONE) {
                    return binder == NONE;
                }
                if (up == given) {
                    return false;
                }
                end = partners[up];
                if (end == NONE) {
                    return true;
                }
            }
            return false;
        }

        /** What a word, or a HOLE, fills: all things WANTED around it, those of a HOLE only within its own one. */
        private boolean isRight() {
            int filled = 0;
            int wanted = 0;
            for (int given = 0; given < count; given++) {
                if ((marks[given] & 1) != 0) {
                    wanted |= 1 << given;
                    continue;
                }
                int binder = parents[given];
                int end = partners[given];
                int steps = 0;
                while (end != NONE && end != binder && steps <= count) {
                    filled |= 1 << end;
                    int up = parents[end];
                    end = up == NONE ? NONE : partners[up];
                    steps++;
                }
                if (end != binder) {
                    return false;
                }
            }
            return filled == wanted;
        }
    }

    /** Places with slots of tags to choose from, and a goal: looks for choices that are EVEN, or can be tied. */
    private static final class Trial {
        static final int MOST = Notes.MOST_WORDS;

        final Opened opened;
        final Strings strings;
        final int[] firsts = new int[MOST];
        final int[] manys = new int[MOST];
        final int[] picked = new int[MOST];
        /** From a place on: of each KIND the least and the most that its tags can give. */
        final long[] lows = new long[MOST + 1];
        final long[] highs = new long[MOST + 1];
        int count;
        int goal;

        Trial(Opened opened) {
            this.opened = opened;
            strings = new Strings(opened);
        }

        void begin(int goalSlot) {
            count = 0;
            goal = goalSlot;
        }

        void beginWithRow(Notes notes) {
            begin(Opened.GOAL);
            for (int place = 0; place < notes.rowCount; place++) {
                addWord(notes.row[place]);
            }
        }

        void addWord(int word) {
            addSlots(Opened.firstSlot(word), opened.tagCounts[word]);
        }

        void addSlots(int first, int many) {
            if (count < MOST) {
                firsts[count] = first;
                manys[count] = many;
                count++;
            }
        }

        private void measure() {
            lows[count] = 0;
            highs[count] = 0;
            for (int place = count - 1; place >= 0; place--) {
                lows[place] = lows[place + 1] + opened.lows[firsts[place]];
                highs[place] = highs[place + 1] + opened.highs[firsts[place]];
            }
        }

        private boolean canComeOutEven(int place, long sum) {
            long bias = Opened.BIAS;
            return (bias + sum + highs[place] & bias) == bias && (bias - sum - lows[place] & bias) == bias;
        }

        /** Hands each READING to the keeper; without one: is there any? */
        boolean search(Readings keeper) {
            if (count == 0 || opened.sizes[goal] == 0) {
                return false;
            }
            measure();
            long sum = opened.sums[goal];
            return canComeOutEven(0, sum) && pick(0, sum, keeper);
        }

        private boolean pick(int place, long sum, Readings keeper) {
            int before = strings.count;
            if (place >= count) {
                strings.lay(goal, NONE);
                boolean isOver = strings.isFlat() && strings.tieFrom(0, keeper);
                strings.liftTo(before);
                return isOver;
            }
            for (int tag = 0; tag < manys[place]; tag++) {
                int slot = firsts[place] + tag;
                long total = sum + opened.sums[slot];
                if (canComeOutEven(place + 1, total) && Opened.sizeOf(total) <= Strings.MOST) {
                    picked[place] = tag;
                    strings.lay(slot, place);
                    boolean isOver = pick(place + 1, total, keeper);
                    strings.liftTo(before);
                    if (isOver) {
                        return true;
                    }
                }
            }
            return false;
        }

        /** How many choices are EVEN, of any size; counts no farther than to the limit. */
        int countEven(int limit) {
            measure();
            return opened.sizes[goal] == 0 ? 0 : countFrom(0, opened.sums[goal], limit);
        }

        private int countFrom(int place, long sum, int limit) {
            if (!canComeOutEven(place, sum)) {
                return 0;
            }
            if (place >= count) {
                return 1;
            }
            int found = 0;
            for (int tag = 0; tag < manys[place] && found < limit; tag++) {
                found += countFrom(place + 1, sum + opened.sums[firsts[place] + tag], limit - found);
            }
            return found;
        }
    }

    /** The READINGS of the ROW, kept until it changes. */
    private static final class Readings {
        static final int MOST = 300;
        static final int LONGEST_MEANING = 24;
        /** Each READING is a row of 64 bytes, eight to a long; these parts begin at: */
        static final int TIES = 0;
        static final int MEANING = 24;
        static final int CHOSEN = 48;
        static final int OVERS = 56;
        static final int LONGS = 8;
        /** A byte that nothing was written into. */
        static final int BLANK = 255;
        static final int BOUND_HOLE = 200;
        static final int HOLE = 100;

        final Trial trial;
        final Strings strings;
        final Notes notes;
        final long[] kept = new long[MOST * LONGS];
        final int[] holeNumbers = new int[Strings.MOST];
        int count;
        boolean isSpent;
        boolean isKnown;
        /** Of the READING that is read off: its first long, HOLES and numbers so far. */
        int base;
        int holes;
        int told;

        Readings(Trial trial, Notes notes) {
            this.trial = trial;
            this.strings = trial.strings;
            this.notes = notes;
        }

        void forget() {
            isKnown = false;
        }

        void find() {
            if (isKnown) {
                return;
            }
            isKnown = true;
            isSpent = false;
            count = 0;
            trial.beginWithRow(notes);
            trial.search(this);
            for (int reading = 0; reading < count && !isSpent; reading++) {
                readOff(reading);
            }
        }

        /** Keeps the strings as they are tied; true when there is no more to keep. */
        boolean keep() {
            if (count >= MOST) {
                isSpent = true;
                return true;
            }
            int from = count * LONGS;
            Arrays.fill(kept, from, from + LONGS, -1L);
            for (int end = 0; end < strings.count; end++) {
                kept[from + (TIES + end) / 8] ^= (long) (strings.partners[end] ^ BLANK) << end % 8 * 8;
            }
            for (int place = 0; place < trial.count; place++) {
                kept[from + CHOSEN / 8] ^= (long) (trial.picked[place] ^ BLANK) << place * 8;
            }
            count++;
            return false;
        }

        /** Ties once more as was kept, and writes down what it means. */
        private void readOff(int reading) {
            for (int place = 0; place < trial.count; place++) {
                strings.lay(trial.firsts[place] + value(reading, CHOSEN, place), place);
            }
            strings.lay(trial.goal, NONE);
            for (int end = 0; end < strings.count; end++) {
                strings.partners[end] = value(reading, TIES, end);
            }
            base = reading * LONGS;
            holes = 0;
            told = 0;
            tell(goalEnd(), NONE, 0);
            Arrays.fill(strings.partners, NONE);
            strings.liftTo(0);
        }

        private int goalEnd() {
            int end = strings.count - 1;
            while (end > 0 && strings.parents[end] != NONE) {
                end--;
            }
            return end;
        }

        /** What a WANTED end means, and over which number it stands. */
        private void tell(int wanted, int above, int depth) {
            int given = strings.partners[wanted];
            if (depth > Strings.MOST || given < 0) {
                return;
            }
            int hole = strings.children[wanted];
            for (int i = 0; i < Opened.MOST && hole != NONE; i++) {
                holeNumbers[hole] = holes;
                write(MEANING + told, BOUND_HOLE + holes);
                told++;
                holes++;
                hole = strings.siblings[hole];
            }
            boolean isWord = strings.parents[given] == NONE;
            int own = isWord ? strings.places[given] : HOLE + holeNumbers[given];
            write(MEANING + told, own);
            told++;
            if (isWord && above != NONE) {
                write(OVERS + own, above);
            }
            int wish = strings.children[given];
            for (int i = 0; i < Opened.MOST && wish != NONE; i++) {
                tell(wish, own, depth + 1);
                wish = strings.siblings[wish];
            }
        }

        /** Into a byte that nothing was written into. */
        private void write(int part, int number) {
            kept[base + part / 8] ^= (long) (number ^ BLANK) << part % 8 * 8;
        }

        int value(int reading, int part, int i) {
            if (isSpent) {
                return SPENT;
            }
            if (reading < 0 || reading >= count) {
                return NONE;
            }
            int spot = part + i;
            int number = (int) (kept[reading * LONGS + spot / 8] >> spot % 8 * 8) & 255;
            return number == BLANK ? NONE : number;
        }

        int firstLike(int reading) {
            if (reading < 0 || reading >= count) {
                return NONE;
            }
            int first = 0;
            while (first < reading && !isAlike(first, reading)) {
                first++;
            }
            return first;
        }

        private boolean isAlike(int one, int other) {
            for (int i = MEANING / 8; i < CHOSEN / 8; i++) {
                if (kept[one * LONGS + i] != kept[other * LONGS + i]) {
                    return false;
                }
            }
            return true;
        }
    }

    /** What would make the ROW a sentence: words left out, changed about, put in, put in place, other tags. */
    private static final class Repair {
        static final int MOST_ORDERED = 6;
        static final int LEVELS = 3;
        static final int NOT_KNOWN = -2;
        static final int HOW_MANY = 0;
        static final int FIRST_PLACE = 1;
        static final int SECOND_PLACE = 2;
        static final int FIRST_WORD = 3;
        static final int SECOND_WORD = 4;
        static final int PUT_IN = 5;

        final Opened opened;
        final Trial trial;
        final Notes notes;
        final int[] order = new int[MOST_ORDERED];
        /** ADDED, in the order of the numbers that ask for it. */
        final int[] putIn = new int[PUT_IN];
        /** Of two words put in: can it come out even, wherever they stand? 1: yes, 2: no. */
        final int[] pairs = new int[Lexicon.MOST_WORDS * Lexicon.MOST_WORDS];
        /** Of each place and number of slashes: how many tags, and the least one's NUMBER. */
        final int[] tagsFound = new int[Notes.MOST_WORDS * LEVELS];
        final int[] leastTags = new int[Notes.MOST_WORDS * LEVELS];
        int leftOut;
        int orderPairs;
        int orderDigits;

        Repair(Opened opened, Trial trial, Notes notes) {
            this.opened = opened;
            this.trial = trial;
            this.notes = notes;
            forget();
        }

        final void forget() {
            leftOut = NOT_KNOWN;
            orderPairs = NOT_KNOWN;
            putIn[HOW_MANY] = NOT_KNOWN;
            Arrays.fill(tagsFound, NOT_KNOWN);
        }

        int leastLeftOut() {
            if (leftOut == NOT_KNOWN) {
                leftOut = findLeftOut();
            }
            return leftOut;
        }

        private int findLeftOut() {
            int words = notes.rowCount;
            for (int many = 0; many < words; many++) {
                for (int set = 0; set < 1 << words; set++) {
                    if (Integer.bitCount(set) == many && isSentenceWithout(set)) {
                        return set;
                    }
                }
            }
            return NONE;
        }

        private boolean isSentenceWithout(int set) {
            trial.begin(Opened.GOAL);
            for (int place = 0; place < notes.rowCount; place++) {
                if ((set >> place & 1) == 0) {
                    trial.addWord(notes.row[place]);
                }
            }
            return trial.search(null);
        }

        void findOrder() {
            if (orderPairs != NOT_KNOWN) {
                return;
            }
            orderPairs = NONE;
            orderDigits = NONE;
            int words = notes.rowCount;
            trial.beginWithRow(notes);
            // an order changes no sums: without an even choice none can help
            if (words > MOST_ORDERED || trial.countEven(1) == 0) {
                return;
            }
            for (int many = 0; many <= words * (words - 1) / 2; many++) {
                if (arrange(0, many, 0)) {
                    orderPairs = many;
                    return;
                }
            }
        }

        /** Orders with just so many pairs the other way about, the first places first. */
        private boolean arrange(int from, int pairsLeft, int used) {
            int words = notes.rowCount;
            if (from >= words) {
                return isOrderSentence();
            }
            int rest = words - from - 1;
            int passed = 0;
            for (int place = 0; place < words && passed <= pairsLeft; place++) {
                if ((used >> place & 1) != 0) {
                    continue;
                }
                boolean comesOut = pairsLeft - passed <= rest * (rest - 1) / 2;
                if (comesOut && !isPassedByLike(place, used)) {
                    order[from] = place;
                    if (arrange(from + 1, pairsLeft - passed, used | 1 << place)) {
                        return true;
                    }
                }
                passed++;
            }
            return false;
        }

        /** One of the same word ahead that is still free does as well, with fewer pairs. */
        private boolean isPassedByLike(int place, int used) {
            for (int other = 0; other < place; other++) {
                if ((used >> other & 1) == 0 && notes.row[other] == notes.row[place]) {
                    return true;
                }
            }
            return false;
        }

        private boolean isOrderSentence() {
            trial.begin(Opened.GOAL);
            int digits = 0;
            for (int i = 0; i < notes.rowCount; i++) {
                trial.addWord(notes.row[order[i]]);
                digits = digits * 10 + order[i] + 1;
            }
            orderDigits = trial.search(null) ? digits : NONE;
            return orderDigits != NONE;
        }

        void findPutIn() {
            if (putIn[HOW_MANY] != NOT_KNOWN) {
                return;
            }
            int words = notes.rowCount;
            int many = NONE;
            if (words > 0 && isSentenceWith(0)) {
                many = 0;
            } else if (words > 0 && words + 1 <= Notes.MOST_WORDS && putOne()) {
                many = 1;
            } else if (words > 0 && words + 2 <= Notes.MOST_WORDS && putTwo()) {
                many = 2;
            }
            putIn[HOW_MANY] = many;
            putIn[FIRST_PLACE] = many < 1 ? NONE : putIn[FIRST_PLACE];
            putIn[FIRST_WORD] = many < 1 ? NONE : putIn[FIRST_WORD];
            putIn[SECOND_PLACE] = many < 2 ? NONE : putIn[SECOND_PLACE];
            putIn[SECOND_WORD] = many < 2 ? NONE : putIn[SECOND_WORD];
        }

        private boolean putOne() {
            for (int place = 0; place <= notes.rowCount; place++) {
                for (int word = 0; word < opened.words; word++) {
                    if (putFirst(place, word) && isSentenceWith(1)) {
                        return true;
                    }
                }
            }
            return false;
        }

        /** False behind a word that is the same one: ahead of it, that row was tried. */
        private boolean putFirst(int place, int word) {
            putIn[FIRST_PLACE] = place;
            putIn[FIRST_WORD] = word;
            return place == 0 || notes.row[place - 1] != word;
        }

        /** False if the same two, put in the other way about, come to a row that was tried. */
        private boolean putSecond(int place, int word) {
            putIn[SECOND_PLACE] = place;
            putIn[SECOND_WORD] = word;
            int behind = place - putIn[FIRST_PLACE];
            return behind > 1 || (behind == 1 ? word > putIn[FIRST_WORD] : word >= putIn[FIRST_WORD]);
        }

        private boolean putTwo() {
            int words = opened.words;
            if (words < 1) {
                return false;
            }
            Arrays.fill(pairs, 0);
            for (int first = 0; first < (notes.rowCount + 1) * words; first++) {
                int place = first / words;
                if (!putFirst(place, first % words)) {
                    continue;
                }
                // a second one farther ahead would have been the first one of a row that was tried
                for (int second = place * words; second < (notes.rowCount + 2) * words; second++) {
                    boolean isNew = putSecond(second / words, second % words);
                    if (isNew && canPairComeOutEven() && isSentenceWith(2)) {
                        return true;
                    }
                }
            }
            return false;
        }

        private boolean canPairComeOutEven() {
            int one = putIn[FIRST_WORD];
            int other = putIn[SECOND_WORD];
            int i = Math.min(one, other) * Lexicon.MOST_WORDS + Math.max(one, other);
            if (pairs[i] == 0) {
                trial.beginWithRow(notes);
                trial.addWord(one);
                trial.addWord(other);
                pairs[i] = trial.countEven(1) > 0 ? 1 : 2;
            }
            return pairs[i] == 1;
        }

        private boolean isSentenceWith(int many) {
            trial.begin(Opened.GOAL);
            for (int i = 0; i < notes.rowCount + many; i++) {
                trial.addWord(wordWith(many, i));
            }
            return trial.search(null);
        }

        /** The word at a place after so many were put in. */
        private int wordWith(int many, int i) {
            int place = i;
            if (many > 1) {
                if (place == putIn[SECOND_PLACE]) {
                    return putIn[SECOND_WORD];
                }
                place -= place > putIn[SECOND_PLACE] ? 1 : 0;
            }
            if (many > 0) {
                if (place == putIn[FIRST_PLACE]) {
                    return putIn[FIRST_WORD];
                }
                place -= place > putIn[FIRST_PLACE] ? 1 : 0;
            }
            return notes.row[place];
        }

        int countTags(int place, int slashes) {
            int found = 0;
            for (int level = 0; level <= slashes; level++) {
                findTags(place, level);
                found += tagsFound[place * LEVELS + level];
            }
            return found;
        }

        int leastTag(int place, int slashes) {
            for (int level = 0; level <= slashes; level++) {
                findTags(place, level);
                if (tagsFound[place * LEVELS + level] > 0) {
                    return leastTags[place * LEVELS + level];
                }
            }
            return NONE;
        }

        /** The tags of just so many slashes that would do at a place. */
        private void findTags(int place, int slashes) {
            int i = place * LEVELS + slashes;
            if (tagsFound[i] != NOT_KNOWN) {
                return;
            }
            int from = slashes == 0 ? 0 : Tag.howMany(slashes - 1, opened.kinds);
            int to = Tag.howMany(slashes, opened.kinds);
            int found = 0;
            for (int number = from; number < to; number++) {
                opened.open(Opened.TRIED, Tag.ofNumber(number, opened.kinds), false);
                if (isSentenceIf(place, Opened.TRIED, 1)) {
                    leastTags[i] = found == 0 ? number : leastTags[i];
                    found++;
                }
            }
            tagsFound[i] = found;
        }

        int wordsFor(int place) {
            int set = 0;
            for (int word = 0; word < opened.words; word++) {
                if (isSentenceIf(place, Opened.firstSlot(word), opened.tagCounts[word])) {
                    set |= 1 << word;
                }
            }
            return set;
        }

        private boolean isSentenceIf(int place, int slot, int many) {
            trial.begin(Opened.GOAL);
            for (int i = 0; i < notes.rowCount; i++) {
                if (i == place) {
                    trial.addSlots(slot, many);
                } else {
                    trial.addWord(notes.row[i]);
                }
            }
            return trial.search(null);
        }

        boolean isSpan(int from, int to, int kind) {
            trial.begin(Opened.KIND_GOALS + kind);
            for (int place = from; place <= to; place++) {
                trial.addWord(notes.row[place]);
            }
            return trial.search(null);
        }
    }

    /** LEARNT, kept as long as the same EXAMPLES count. */
    private static final class Learner {
        static final int MOST_WORDS = 4;
        static final int MOST_KINDS = 2;

        final Opened opened;
        final Trial trial;
        final Notes notes;
        final int[] numbers = new int[MOST_WORDS];
        /** The EXAMPLES that count, as bits. */
        int counting;
        boolean isKnown;
        boolean isFound;
        int slashes;

        Learner(Opened opened, Trial trial, Notes notes) {
            this.opened = opened;
            this.trial = trial;
            this.notes = notes;
        }

        void forget() {
            isKnown = false;
        }

        void find(int k) {
            int set = 0;
            for (int number = 0; number < notes.examples; number++) {
                if (notes.counts(number, k)) {
                    set |= 1 << number;
                }
            }
            if (isKnown && set == counting) {
                return;
            }
            isKnown = true;
            counting = set;
            isFound = false;
            for (int many = 0; many <= opened.words && many <= MOST_WORDS && !isFound; many++) {
                slashes = many;
                isFound = assign(0, many);
            }
        }

        /** Tags for this word and those behind it, with just so many slashes, the least NUMBERS first. */
        private boolean assign(int word, int slashesLeft) {
            if (word >= opened.words || word >= MOST_WORDS) {
                return slashesLeft == 0;
            }
            int wordsLeft = opened.words - word - 1;
            int kinds = opened.kinds;
            int most = Math.min(Tag.howMany(1, kinds), Opened.MOST_LEARNT);
            for (int number = 0; number < most; number++) {
                int left = number < kinds ? slashesLeft : slashesLeft - 1;
                if (left >= 0 && left <= wordsLeft) {
                    numbers[word] = number;
                    if (judgesRight(word) && assign(word + 1, left)) {
                        return true;
                    }
                }
            }
            return false;
        }

        /** Looks at the EXAMPLES whose last word to get a tag is this one. */
        private boolean judgesRight(int word) {
            for (int number = 0; number < notes.examples; number++) {
                if ((counting >> number & 1) != 0 && notes.highestWord(number) == word) {
                    beginWith(number);
                    if (trial.search(null) != notes.isRight(number)) {
                        return false;
                    }
                }
            }
            return true;
        }

        private void beginWith(int number) {
            trial.begin(Opened.GOAL);
            for (int i = 0; i < notes.lengths[number]; i++) {
                int word = notes.wordOf(number, i);
                trial.addSlots(Opened.LEARNT + numbers[word], 1);
            }
        }
    }

    /** The ROW and the EXAMPLES: what a BOX keeps. */
    private static final class Notes {
        static final int MOST_WORDS = 8;
        static final int MOST_EXAMPLES = 12;
        static final int LONGEST_EXAMPLE = 6;
        /** Later than any TIME that can be asked for. */
        static final long NEVER = 1L << 40;

        final int[] row = new int[MOST_WORDS];
        final int[] exampleWords = new int[MOST_EXAMPLES * LONGEST_EXAMPLE];
        final int[] lengths = new int[MOST_EXAMPLES];
        final int[] rights = new int[MOST_EXAMPLES];
        final long[] toldAt = new long[MOST_EXAMPLES];
        final long[] untoldAt = new long[MOST_EXAMPLES];
        int rowCount;
        int examples;
        boolean isKept;

        void clear() {
            rowCount = 0;
            examples = 0;
        }

        void setRow(int[] words, int count) {
            rowCount = Math.min(count, MOST_WORDS);
            System.arraycopy(words, 0, row, 0, rowCount);
        }

        int tell(boolean right, int time) {
            if (rowCount < 1 || rowCount > LONGEST_EXAMPLE || examples >= MOST_EXAMPLES) {
                return NONE;
            }
            int number = examples;
            System.arraycopy(row, 0, exampleWords, number * LONGEST_EXAMPLE, rowCount);
            lengths[number] = rowCount;
            rights[number] = right ? 1 : 0;
            toldAt[number] = time;
            untoldAt[number] = NEVER;
            examples++;
            return number;
        }

        boolean takeBack(int number, int time) {
            if (number < 0 || number >= examples || untoldAt[number] != NEVER) {
                return false;
            }
            untoldAt[number] = time;
            return true;
        }

        boolean counts(int number, int k) {
            return toldAt[number] <= k && untoldAt[number] > k;
        }

        boolean isRight(int number) {
            return rights[number] != 0;
        }

        int wordOf(int number, int i) {
            return exampleWords[number * LONGEST_EXAMPLE + i];
        }

        int highestWord(int number) {
            int highest = NONE;
            for (int i = 0; i < lengths[number]; i++) {
                highest = Math.max(highest, wordOf(number, i));
            }
            return highest;
        }

        void copyFrom(Notes other) {
            rowCount = other.rowCount;
            examples = other.examples;
            System.arraycopy(other.row, 0, row, 0, MOST_WORDS);
            System.arraycopy(other.exampleWords, 0, exampleWords, 0, exampleWords.length);
            System.arraycopy(other.lengths, 0, lengths, 0, MOST_EXAMPLES);
            System.arraycopy(other.rights, 0, rights, 0, MOST_EXAMPLES);
            System.arraycopy(other.toldAt, 0, toldAt, 0, MOST_EXAMPLES);
            System.arraycopy(other.untoldAt, 0, untoldAt, 0, MOST_EXAMPLES);
        }
    }
}
