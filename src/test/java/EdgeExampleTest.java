/**
 * The edges of promises 24 to 30 and of section 4 of the Terms: each method is headed by the words of the document
 * that it holds the class to.
 */
public final class EdgeExampleTest {
    private static final Check check = new Check();
    private static final int[] FAR = {Integer.MIN_VALUE, Integer.MIN_VALUE + 1, -1000, 1000, 1 << 29, Integer.MAX_VALUE};
    private static final String WORDS = "kind s;kind n;word j is n;word r is n\\s;";
    private static final String FOUR = "kind a;kind b;word p is a;word q is a;word r is a;word s is a;";

    public static void main(String[] args) {
        rowsOf1To6Words();
        twelveExamples();
        exampleRefused();
        exampleKeepsItsRow();
        untoldOnce();
        untellRefused();
        untoldAtTheSameTime();
        laterBy0To1000();
        laterTo100000();
        laterRefused();
        toldAtKOrBefore();
        notUntoldAtKOrBefore();
        judgesTheFirst();
        judgesNone();
        judgesByTheLexiconAsItIs();
        learntOfNoWord();
        learntByFourWords();
        learntByTwoKinds();
        learntByItsOwnKinds();
        learntOfTwelveLongOnes();
        learntOrNone();
        learntWithoutExamples();
        learntTheFewestSlashes();
        learntTheLeastRow();
        learntUpToTheLastNumber();
        learntAsKnown();
        boxes0To2();
        imageKeepsAll();
        imageRefused();
        backToWhatWasKept();
        backToWhatWasOverwritten();
        backRefused();
        backAndTheTimeGoesOn();
        backToFullAndEmpty();
        as512Calls();
        check.finish("EdgeExampleTest");
    }

    private static int tell(WordKeys x, String row, boolean right) {
        if (Check.row(x, row) < 0) {
            System.out.println("no row: " + row);
        }
        return x.example(right);
    }

    private static WordKeys full() {
        WordKeys x = Check.with(WORDS);
        fill(x);
        return x;
    }

    private static void fill(WordKeys x) {
        for (int i = 0; i < 12; i++) {
            tell(x, i % 3 == 0 ? "j r" : "j", i % 3 == 0);
        }
    }

    /** "NONE, doing nothing, if it has not 1 to 6 words" */
    private static void rowsOf1To6Words() {
        WordKeys x = Check.with(WORDS);
        int[] due = {-1, 0, 1, 2, 3, 4, 5, -1, -1};
        for (int words = 0; words <= 8; words++) {
            check.due("of " + words + " words", tell(x, "j ".repeat(words), false), due[words]);
            check.due("the row stays", x.about(2), words);
        }
        check.due("examples", x.about(3), 6);
        check.due("none judged wrong", x.judge(0), -1);
    }

    /** "EXAMPLES, 12 at most"; ".. or there are 12" */
    private static void twelveExamples() {
        WordKeys x = Check.with(WORDS);
        for (int number = 0; number < 12; number++) {
            check.due("example " + number, tell(x, "j", number % 2 == 0), number);
            check.due("how many", x.about(3), number + 1);
        }
        check.due("a 13th", x.example(true), -1);
        check.due("a 13th that is wrong", x.example(false), -1);
        check.due("twelve", x.about(3), 12);
        check.due("the first untold", x.untell(0), true);
        check.due("a 13th is one too many still", x.example(true), -1);
        check.due("the last untold", x.untell(11), true);
        x.later(1);
        check.due("and at another TIME", x.example(true), -1);
    }

    private static void exampleRefused() {
        new Twins(check, x -> {
            Check.lexicon(x, WORDS);
            tell(x, "j", true);
            Check.row(x, "");
        }).refused("of none", x -> x.example(true)).refused("of none", x -> x.example(false)).alike("of no words");
        new Twins(check, x -> {
            Check.lexicon(x, WORDS);
            tell(x, "j", true);
            Check.row(x, "j j j j j j j");
            Check.type(x, "r");
        }).refused("of seven", x -> x.example(true)).refused("of seven", x -> x.example(false)).alike("of seven words");
        new Twins(check, x -> {
            Check.lexicon(x, WORDS);
            fill(x);
            x.later(5);
            x.image(1);
        }).refused("13th", x -> x.example(true)).refused("13th", x -> x.example(false)).alike("a 13th");
    }

    /** "The ROW is an EXAMPLE": as it is then. */
    private static void exampleKeepsItsRow() {
        WordKeys x = Check.with(WORDS);
        tell(x, "j r", true);
        Check.row(x, "j");
        check.due("the row goes on, the example stays", x.judge(0), -1);
        check.due("the row is none", x.readings(), 0);
        tell(x, "r r r r r r", true);
        Check.row(x, "j r");
        check.due("of six words to the last", x.judge(0), 1);
        WordKeys y = Check.with("kind a;word f is a/a;word p is a;");
        tell(y, "f f f f f p", true);
        check.due("of six words", y.judge(0), -1);
        tell(y, "f f f f f f", true);
        check.due("of another last word", y.judge(0), 1);
    }

    /** "It is UNTOLD: true; false if it is so already, or there is none such." */
    private static void untoldOnce() {
        WordKeys x = full();
        for (int number = 0; number < 12; number++) {
            check.due("untell " + number, x.untell(number), true);
            check.due("once more " + number, x.untell(number), false);
        }
        check.due("a 13th", x.untell(12), false);
        check.due("below", x.untell(-1), false);
        for (int far : FAR) {
            check.due("untell " + far, x.untell(far), false);
        }
        check.due("examples stay", x.about(3), 12);
        WordKeys y = Check.with(WORDS);
        check.due("none so far", y.untell(0), false);
        tell(y, "j", true);
        check.due("no second", y.untell(1), false);
        check.due("the first", y.untell(0), true);
        x.lexicon();
        check.due("none of another lexicon", x.untell(0), false);
    }

    private static void untellRefused() {
        new Twins(check, x -> {
            Check.lexicon(x, WORDS);
            tell(x, "j", true);
            tell(x, "r", true);
            x.later(2);
            x.untell(0);
            x.image(0);
            x.later(3);
        }).refused("already", x -> x.untell(0) ? 1 : 0, 0).refused("none such", x -> x.untell(2) ? 1 : 0, 0)
            .refused("below", x -> x.untell(-1) ? 1 : 0, 0).alike("untold at 2 it stays");
    }

    /** "UNTOLD at a later one or the same" */
    private static void untoldAtTheSameTime() {
        WordKeys x = Check.with(WORDS);
        x.later(4);
        tell(x, "j", true);
        check.due("told", x.judge(4), 0);
        x.untell(0);
        int[] times = {Integer.MIN_VALUE, 3, 4, 5, Integer.MAX_VALUE};
        for (int k : times) {
            check.due("never counts, at " + k, x.judge(k), -1);
        }
    }

    /** "So much later (0 .. 1000): the TIME; NONE, doing nothing, for another number" */
    private static void laterBy0To1000() {
        WordKeys x = new WordKeys();
        check.due("at first", x.about(4), 0);
        check.due("by 0", x.later(0), 0);
        check.due("by 1", x.later(1), 1);
        check.due("by 1000", x.later(1000), 1001);
        check.due("by 1001", x.later(1001), -1);
        check.due("by -1", x.later(-1), -1);
        for (int far : FAR) {
            check.due("by " + far, x.later(far), far == 1000 ? 2001 : -1);
        }
        check.due("then", x.about(4), 2001);
        check.due("by 999", x.later(999), 3000);
    }

    /** "or if it would be above 100,000" */
    private static void laterTo100000() {
        WordKeys x = new WordKeys();
        for (int i = 1; i <= 99; i++) {
            check.due("later " + i, x.later(1000), 1000 * i);
        }
        check.due("to 99,001", x.later(1), 99001);
        check.due("to 100,001", x.later(1000), -1);
        check.due("to 100,000", x.later(999), 100000);
        check.due("one more", x.later(1), -1);
        check.due("a thousand more", x.later(1000), -1);
        check.due("none more", x.later(0), 100000);
        check.due("the TIME", x.about(4), 100000);
        Check.lexicon(x, WORDS);
        tell(x, "j", true);
        check.due("at 99,999", x.judge(99999), -1);
        check.due("at 100,000", x.judge(100000), 0);
        check.due("untold then", x.untell(0), true);
        check.due("at 100,000 no more", x.judge(100000), -1);
    }

    private static void laterRefused() {
        new Twins(check, x -> {
            Check.lexicon(x, WORDS);
            tell(x, "j", true);
            x.later(3);
            tell(x, "j r", true);
        }).refused("1001", x -> x.later(1001)).refused("-1", x -> x.later(-1))
            .refused("MIN", x -> x.later(Integer.MIN_VALUE)).refused("MAX", x -> x.later(Integer.MAX_VALUE)).alike("no later");
        new Twins(check, x -> {
            Check.lexicon(x, WORDS);
            for (int i = 0; i < 100; i++) {
                x.later(1000);
            }
            tell(x, "j", true);
        }).refused("at the end", x -> x.later(1)).alike("no later than 100,000");
    }

    /** "As known at k those count that were TOLD at k or before" */
    private static void toldAtKOrBefore() {
        WordKeys x = Check.with(WORDS);
        tell(x, "j", true);
        x.later(5);
        tell(x, "r", true);
        x.later(5);
        check.due("before all", x.judge(-1), -1);
        check.due("told at 0", x.judge(0), 0);
        check.due("long before", x.judge(Integer.MIN_VALUE), -1);
        x.untell(0);
        check.due("at 4 the first", x.judge(4), 0);
        check.due("at 10 the second", x.judge(10), 1);
        check.due("later than now", x.judge(11), 1);
        check.due("much later", x.judge(Integer.MAX_VALUE), 1);
        WordKeys y = Check.with(WORDS);
        y.later(5);
        tell(y, "j", true);
        check.due("at 4", y.judge(4), -1);
        check.due("at 5", y.judge(5), 0);
        check.due("at 6", y.judge(6), 0);
        check.due("learnt at 4", y.learnt(0, 4), 0);
        tell(y, "r", false);
        check.due("learnt at 4 still", y.learnt(1, 4), 0);
        check.due("learnt at 5", y.learnt(1, 5), 1);
    }

    /** "not UNTOLD at k or before" */
    private static void notUntoldAtKOrBefore() {
        WordKeys x = Check.with(WORDS);
        x.later(2);
        tell(x, "j", true);
        x.later(6);
        x.untell(0);
        int[] counting = {2, 3, 7};
        for (int k : counting) {
            check.due("counts at " + k, x.judge(k), 0);
        }
        int[] not = {1, 8, 9, 1000, Integer.MAX_VALUE};
        for (int k : not) {
            check.due("does not count at " + k, x.judge(k), -1);
        }
        x.later(1);
        check.due("told anew", x.example(true), 1);
        check.due("at 7 the first", x.judge(7), 0);
        check.due("at 8 none", x.judge(8), -1);
        check.due("at 9 the second", x.judge(9), 1);
    }

    /** "The first EXAMPLE that counts by which the LEXICON, as it is, does not judge right" */
    private static void judgesTheFirst() {
        WordKeys x = Check.with(WORDS);
        for (int i = 0; i < 11; i++) {
            tell(x, i % 2 == 0 ? "j r" : "r j", i % 2 == 0);
        }
        check.due("all judged right", x.judge(0), -1);
        tell(x, "j r", false);
        check.due("the last of twelve", x.judge(0), 11);
        WordKeys y = Check.with(WORDS);
        tell(y, "r j", true);
        tell(y, "j r", false);
        tell(y, "j", true);
        check.due("the first", y.judge(0), 0);
        y.untell(0);
        check.due("the next", y.judge(0), 1);
        y.untell(1);
        check.due("the last", y.judge(0), 2);
        y.untell(2);
        check.due("none more", y.judge(0), -1);
    }

    /** "NONE if there is none." */
    private static void judgesNone() {
        check.due("new", new WordKeys().judge(0), -1);
        WordKeys x = Check.with(WORDS);
        check.due("without EXAMPLES", x.judge(0), -1);
        tell(x, "r", true);
        Check.row(x, "r j");
        check.due("the ROW is not asked", x.judge(-1), -1);
        for (int far : FAR) {
            check.due("judge " + far, x.judge(far), far < 0 ? -1 : 0);
        }
    }

    private static void judgesByTheLexiconAsItIs() {
        WordKeys x = Check.with("kind a;word f is a/a;word m is (a/a)/(a/a);word x is a;goal (a/a)/(a/a);");
        tell(x, "m m m m", true);
        check.due("20 ends", x.judge(0), -1);
        tell(x, "m m m m m", false);
        check.due("24 ends are no sentence", x.judge(0), -1);
        tell(x, "m m m m m", true);
        check.due("told right it is judged wrong", x.judge(0), 2);
    }

    /** "slashes in all (word NONE)"; "-3 if there is no such WORD" */
    private static void learntOfNoWord() {
        WordKeys x = Check.with(FOUR);
        check.due("in all", x.learnt(-1, 0), 0);
        check.due("the first", x.learnt(0, 0), 0);
        check.due("the last", x.learnt(3, 0), 0);
        check.due("behind it", x.learnt(4, 0), -3);
        check.due("below NONE", x.learnt(-2, 0), -3);
        for (int far : FAR) {
            check.due("learnt " + far, x.learnt(far, 0), -3);
        }
        check.due("of a new one", new WordKeys().learnt(0, 0), -3);
        check.due("of a new one in all", new WordKeys().learnt(-1, 0), 0);
        tell(x, "p", true);
        tell(x, "p", false);
        check.due("no such lexicon", x.learnt(0, 0), -1);
        check.due("no such WORD, all the same", x.learnt(4, 0), -3);
        // read so: -3 ahead of -2
        x = Check.with(FOUR + "word t is a;");
        check.due("no such WORD of five", x.learnt(5, 0), -3);
        check.due("nor below", x.learnt(-2, 0), -3);
    }

    /** "4 WORDS .. at most; SPENT with more" */
    private static void learntByFourWords() {
        WordKeys x = Check.with(FOUR);
        tell(x, "p q r s", true);
        check.due("four WORDS", x.learnt(-1, 0), 3);
        x = Check.with(FOUR + "word t is a;");
        check.due("five WORDS", x.learnt(-1, 0), -2);
        for (int word = 0; word < 5; word++) {
            check.due("five WORDS, number " + word, x.learnt(word, 0), -2);
        }
        tell(x, "p", true);
        tell(x, "p", false);
        check.due("five WORDS that could not be learnt", x.learnt(-1, 0), -2);
    }

    /** "2 KINDS at most" */
    private static void learntByTwoKinds() {
        WordKeys x = Check.with("kind a;word p is a;");
        check.due("one KIND", x.learnt(0, 0), 0);
        x = Check.with("kind a;kind b;word p is a;");
        check.due("two KINDS", x.learnt(0, 0), 0);
        x = Check.with("kind a;kind b;kind c;word p is a;");
        check.due("three KINDS", x.learnt(0, 0), -2);
        check.due("three KINDS, in all", x.learnt(-1, 0), -2);
        check.due("three KINDS without WORDS", Check.with("kind a;kind b;kind c;").learnt(-1, 0), -2);
    }

    /** By KINDS of the LEXICON alone: what an older one had is not to be learnt. */
    private static void learntByItsOwnKinds() {
        String words = "word p is a;word q is a;word r is a;";
        WordKeys x = Check.with("kind a;kind b;" + words);
        tellFour(x);
        learns(x, 0, 2, 3, 4, 0);
        Check.lexicon(x, "kind a;" + words);
        tellFour(x);
        learns(x, 0, -1, -1, -1, -1);
        Check.lexicon(x, "kind a;kind b;goal b;" + words);
        tellFour(x);
        learns(x, 0, 2, 4, 3, 1);
    }

    /** Right by p a/b, q b/a, r a, and the like; a b is needed. */
    private static void tellFour(WordKeys x) {
        tell(x, "p q r", true);
        tell(x, "r", true);
        tell(x, "q r", false);
        tell(x, "p r", false);
    }

    private static void learns(WordKeys x, int k, int slashes, int... numbers) {
        check.due("slashes at " + k, x.learnt(-1, k), slashes);
        for (int word = 0; word < numbers.length; word++) {
            check.due("number of " + word + " at " + k, x.learnt(word, k), numbers[word]);
        }
    }

    /** "NONE if there is no such lexicon" */
    private static void learntOrNone() {
        WordKeys x = Check.with("kind a;kind b;word p is a;word q is b;");
        tell(x, "p", true);
        learns(x, 0, 0, 0, 0);
        tell(x, "p", false);
        learns(x, 0, -1, -1, -1);
        x.later(1);
        x.untell(1);
        learns(x, 0, -1, -1, -1);
        learns(x, 1, 0, 0, 0);
        // two slashes of one WORD would do, one does not
        x = Check.with("kind a;word p is (a/a)/a;word q is a;");
        tell(x, "p q q", true);
        tell(x, "q", true);
        tell(x, "p q", false);
        check.due("the LEXICON itself does", x.judge(0), -1);
        learns(x, 0, -1, -1, -1);
    }

    private static void learntWithoutExamples() {
        learns(Check.with(FOUR), 0, 0, 0, 0, 0, 0);
        learns(Check.with("kind a;kind b;"), 0, 0);
        learns(Check.with("kind a;"), 0, 0);
        WordKeys x = Check.with("kind a;kind b;goal b;word p is (a/a)/a or b;");
        learns(x, 0, 0, 0);
        tell(x, "p", true);
        learns(x, -1, 0, 0);
        learns(x, 0, 0, 1);
    }

    /** "the fewest slashes in all" */
    private static void learntTheFewestSlashes() {
        WordKeys x = Check.with(FOUR);
        tell(x, "p", false);
        // p is b, with none: ahead of a/a, though that comes to a lesser row of the others
        learns(x, 0, 0, 1, 0, 0, 0);
        tell(x, "p q", true);
        learns(x, 0, 1, 1, 8, 0, 0);
        x = Check.with("kind a;goal a/a;word p is a;word q is a;word r is a;word s is a;");
        tell(x, "p", true);
        learns(x, 0, 1, 1, 0, 0, 0);
        tell(x, "q", true);
        tell(x, "r", true);
        learns(x, 0, 3, 1, 1, 1, 0);
        tell(x, "s", true);
        learns(x, 0, 4, 1, 1, 1, 1);
        tell(x, "s s", false);
        learns(x, 0, -1, -1, -1, -1, -1);
    }

    /** "of like ones the least row of NUMBERS (the first WORD's counts most)" */
    private static void learntTheLeastRow() {
        WordKeys x = Check.with("kind a;kind b;word p is a;word q is a;");
        tell(x, "p q", true);
        // a and a\a, ahead of a/a and a
        learns(x, 0, 1, 0, 6);
        x = Check.with("kind a;kind b;word q is a;word p is a;");
        tell(x, "p q", true);
        learns(x, 0, 1, 0, 2);
        tell(x, "q", false);
        learns(x, 0, 1, 1, 3);
    }

    /** The last NUMBER that can be learnt: b\b of two KINDS, a\a of one. */
    private static void learntUpToTheLastNumber() {
        WordKeys x = Check.with("kind a;kind b;goal b\\b;word p is a;word q is a;word r is a;word s is a;");
        tell(x, "s", true);
        // s alone: b\b
        learns(x, 0, 1, 0, 0, 0, 9);
        tell(x, "p", true);
        tell(x, "q", true);
        tell(x, "r", true);
        learns(x, 0, 4, 9, 9, 9, 9);
        x = Check.with("kind a;goal a\\a;word p is a;");
        tell(x, "p", true);
        learns(x, 0, 1, 2);
    }

    /** As many EXAMPLES as there can be, as long as they can be, all of them looked at to the last word. */
    private static void learntOfTwelveLongOnes() {
        WordKeys x = Check.with("kind a;word p is a;word q is a;word r is a;");
        String[] rows = {"p q q q q q", "p q q q q", "p q q q", "p q q", "p q", "p", "p q q q q r", "p q q q r", "p q q r",
            "p q r", "p r", "p r r r r r"};
        for (String row : rows) {
            tell(x, row, true);
        }
        learns(x, 0, 2, 0, 2, 2);
        x = Check.with("kind a;word p is a;word q is a;word r is a;");
        for (int i = 0; i < 11; i++) {
            tell(x, "p p p p p p", false);
        }
        tell(x, "p q q q q r", true);
        learns(x, 0, 2, 0, 2, 2);
        x.untell(11);
        learns(x, 0, 0, 0, 0, 0);
    }

    private static void learntAsKnown() {
        WordKeys x = Check.with("kind a;kind b;word p is a;word q is a;");
        x.later(10);
        tell(x, "p", false);
        x.later(10);
        x.untell(0);
        learns(x, 9, 0, 0, 0);
        learns(x, 10, 0, 1, 0);
        learns(x, 19, 0, 1, 0);
        learns(x, 20, 0, 0, 0);
        learns(x, Integer.MIN_VALUE, 0, 0, 0);
        learns(x, Integer.MAX_VALUE, 0, 0, 0);
        learns(x, 10, 0, 1, 0);
        Check.row(x, "q");
        x.example(false);
        learns(x, 19, 0, 1, 0);
        learns(x, 20, 0, 0, 1);
    }

    /** "kept in a BOX 0 .. 2: how many EXAMPLES; NONE if there is none such." */
    private static void boxes0To2() {
        WordKeys x = Check.with(WORDS);
        int[] none = {-1, 3, 4};
        for (int box : none) {
            check.due("image " + box, x.image(box), -1);
            check.due("back " + box, x.back(box), -1);
        }
        for (int far : FAR) {
            check.due("image " + far, x.image(far), -1);
            check.due("back " + far, x.back(far), -1);
        }
        for (int box = 0; box < 3; box++) {
            check.due("nothing so far in " + box, x.back(box), -1);
            check.due("image " + box, x.image(box), box);
            tell(x, "j r r".substring(0, 2 * box + 1), true);
        }
        for (int box = 2; box >= 0; box--) {
            check.due("back " + box, x.back(box), box);
            check.due("its words", x.about(2), box);
            check.due("its EXAMPLES", x.about(3), box);
        }
    }

    /** "The ROW and EXAMPLES (as TOLD, UNTOLD) are kept" */
    private static void imageKeepsAll() {
        WordKeys x = Check.with(WORDS);
        x.later(1);
        tell(x, "j", true);
        tell(x, "r j", true);
        x.later(1);
        x.untell(0);
        Check.row(x, "j r j r j r j r");
        check.due("image", x.image(1), 2);
        check.due("the ROW is as it was", x.about(2), 8);
        x.later(5);
        x.untell(1);
        tell(x, "r r", true);
        check.due("back", x.back(1), 2);
        check.dueRow("the ROW", x::at, 0, 1, 0, 1, 0, 1, 0, 1);
        check.due("TOLD at 1", x.judge(0), -1);
        check.due("both TOLD", x.judge(1), 0);
        check.due("the first UNTOLD at 2", x.judge(2), 1);
        check.due("the second not UNTOLD", x.judge(7), 1);
        check.due("the first is so already", x.untell(0), false);
        check.due("the second is not", x.untell(1), true);
        check.due("no third", x.untell(2), false);
        check.due("then none", x.judge(7), -1);
        check.due("at 6 the second", x.judge(6), 1);
        // kept anew in the same BOX
        check.due("image anew", x.image(1), 2);
        x.back(1);
        check.due("UNTOLD in it", x.untell(1), false);
    }

    private static void imageRefused() {
        new Twins(check, x -> {
            Check.lexicon(x, WORDS);
            tell(x, "j", true);
            x.image(0);
            x.image(2);
            tell(x, "r", true);
            Check.type(x, "j r");
        }).refused("-1", x -> x.image(-1)).refused("3", x -> x.image(3)).refused("MAX", x -> x.image(Integer.MAX_VALUE))
            .refused("MIN", x -> x.image(Integer.MIN_VALUE)).alike("no image");
    }

    /** "All is as it was kept": again and again, and whatever was done since. */
    private static void backToWhatWasKept() {
        WordKeys x = Check.with(WORDS);
        tell(x, "j r", true);
        x.image(0);
        for (int i = 0; i < 3; i++) {
            x.untell(0);
            tell(x, "r", true);
            Check.row(x, "r r r");
            check.due("back " + i, x.back(0), 1);
            check.due("readings " + i, x.readings(), 1);
            check.due("mended " + i, x.mended(1), 12);
            check.due("lost " + i, x.lost(), 0);
            check.due("judge " + i, x.judge(0), -1);
            check.due("learnt " + i, x.learnt(1, 0), 6);
        }
        // a ROW or a LEXICON that is refused empties no BOX
        Check.row(x, "z");
        Check.lexicon(x, "z");
        check.due("back still", x.back(0), 1);
        // nor does back fill one
        check.due("another is empty still", x.back(1), -1);
    }

    /** What is TOLD anew after going back is not what the BOX keeps. */
    private static void backToWhatWasOverwritten() {
        WordKeys x = Check.with("kind a;kind b;word p is a;word q is a/a;");
        x.image(0);
        x.later(2);
        tell(x, "q p", true);
        tell(x, "p", false);
        x.image(1);
        check.due("of the first", x.judge(2), 1);
        check.due("none at 1", x.judge(1), -1);
        check.due("learnt", x.learnt(0, 2), 1);
        x.back(0);
        x.later(3);
        tell(x, "p q", true);
        tell(x, "q", true);
        x.image(2);
        check.due("of the second", x.judge(5), 0);
        check.due("none at 4", x.judge(4), -1);
        check.due("learnt of the second", x.learnt(0, 5), 2);
        check.due("back to the first", x.back(1), 2);
        check.due("its row", x.about(2) * 10 + x.at(0), 10);
        check.due("as of the first", x.judge(2), 1);
        check.due("learnt as of the first", x.learnt(0, 2), 1);
        check.due("learnt as of the first, the second WORD", x.learnt(1, 2), 3);
        check.due("back to the second", x.back(2), 2);
        check.due("as of the second", x.judge(5), 0);
        check.due("as of the second, at 4", x.judge(4), -1);
        check.due("learnt as of the second", x.learnt(0, 5), 2);
        check.due("back to the first again", x.back(1), 2);
        check.due("as of the first again", x.judge(4), 1);
        check.due("learnt as of the first again", x.learnt(1, 4), 3);
    }

    /** "NONE, doing nothing, if nothing was" */
    private static void backRefused() {
        new Twins(check, x -> {
            Check.lexicon(x, WORDS);
            tell(x, "j", true);
            x.image(1);
            x.later(2);
            tell(x, "r", true);
            x.untell(0);
            Check.type(x, "j r");
        }).refused("0", x -> x.back(0)).refused("2", x -> x.back(2)).refused("-1", x -> x.back(-1))
            .refused("3", x -> x.back(3)).refused("MAX", x -> x.back(Integer.MAX_VALUE))
            .refused("MIN", x -> x.back(Integer.MIN_VALUE)).alike("nothing was kept");
        WordKeys x = Check.with(WORDS);
        for (int box = 0; box < 3; box++) {
            x.image(box);
        }
        Check.lexicon(x, WORDS);
        for (int box = 0; box < 3; box++) {
            check.due("of another LEXICON " + box, x.back(box), -1);
        }
    }

    /** "(the TIME goes on)" */
    private static void backAndTheTimeGoesOn() {
        WordKeys x = Check.with(WORDS);
        x.later(3);
        x.image(0);
        x.later(4);
        x.back(0);
        check.due("the TIME", x.about(4), 7);
        check.due("later", x.later(1), 8);
        tell(x, "j", true);
        check.due("TOLD at 8", x.judge(7), -1);
        check.due("not before", x.judge(8), 0);
        Check.type(x, "j r");
        x.back(0);
        check.due("the TAPE stays", x.about(5), 3);
        check.due("and is a ROW", x.row(), 2);
        Check.row(x, "?");
        x.back(0);
        check.due("a FAULT stays", x.fault(0), 1);
    }

    private static void backToFullAndEmpty() {
        WordKeys x = Check.with(WORDS);
        check.due("an empty one", x.image(0), 0);
        fill(x);
        Check.row(x, "j j j j j j j j");
        check.due("a full one", x.image(2), 12);
        check.due("back to the empty one", x.back(0), 0);
        check.due("no ROW", x.about(2), 0);
        check.due("no EXAMPLES", x.about(3), 0);
        check.due("nothing to judge", x.judge(0), -1);
        check.due("nothing to untell", x.untell(0), false);
        check.due("back to the full one", x.back(2), 12);
        check.due("its ROW", x.about(2), 8);
        Check.row(x, "j");
        check.due("no 13th", x.example(true), -1);
        check.due("the last of it", x.untell(11), true);
        check.due("back to the empty one again", x.back(0), 0);
        check.due("numbers from 0 on", tell(x, "j r", true), 0);
        check.due("not UNTOLD as those before", x.untell(0), true);
    }

    /** "An object is used for at most 512 calls": the last of them answers as the first ones did. */
    private static void as512Calls() {
        WordKeys x = new WordKeys();
        int calls = 0;
        for (int round = 0; round < 12; round++) {
            // 5 calls for the LEXICON, 5 for each EXAMPLE and its ROW, 7 behind them
            calls += 5 + 5 * 5 + 7;
            Check.type(x, "kind s;kind n;word j is n;word r is n\\s;");
            check.due("lexicon " + round, x.lexicon(), 2);
            for (int number = 0; number < 5; number++) {
                Check.type(x, number % 2 == 0 ? "j r" : "r j");
                check.due("row " + round, x.row(), 2);
                check.due("example " + round, x.example(number % 2 == 0), number);
            }
            check.due("readings " + round, x.readings(), 1);
            check.due("judge " + round, x.judge(round), -1);
            check.due("learnt " + round, x.learnt(1, round), 6);
            check.due("image " + round, x.image(round % 3), 5);
            check.due("back " + round, x.back(round % 3), 5);
            check.due("later " + round, x.later(1), round + 1);
            check.due("mended " + round, x.mended(1), 12);
        }
        check.due("so far", calls, 444);
        for (; calls < 511; calls++) {
            x.example(true);
        }
        check.due("the 512th", x.about(3), 12);
    }
}
