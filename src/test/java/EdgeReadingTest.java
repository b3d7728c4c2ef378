import java.util.List;

/**
 * The edges of promises 10 to 14 and 23 and of section 2 of the Terms: each method is headed by the words of the
 * document that it holds the class to.
 */
public final class EdgeReadingTest {
    private static final Check check = new Check();
    private static final int[] FAR = {Integer.MIN_VALUE, Integer.MIN_VALUE + 1, -1000, -1, 1000, 1 << 29, Integer.MAX_VALUE};
    /** 300 READINGS of this ROW, and 301 of the next one. */
    private static final String LEXICON_300 = "kind a;word wa is a or a/a or a/a;word wb is (a/a)/a or a/(a/a) or a/a;";
    private static final String ROW_300 = "wa wb wb wb wb wa wa";
    private static final String LEXICON_301 = "kind a;word wa is a/a or a/(a/a) or (a/a)/a;word wb is a or a/a or (a\\a)/a;";
    private static final String ROW_301 = "wa wb wa wb wb wa wb wb";
    private static final String MANY_ENDS = "kind a;word m is (a/a)/(a/a);word y is a/a;word x is a;word k is (a/a)/a;";

    public static void main(String[] args) {
        endsOfAKind();
        endsOfASlash();
        endsOfAThingWanted();
        endsOfTheGoal();
        noTwoStringsCross();
        eachKindForItself();
        eachWordJustOnce();
        holeWithinItsOwnThing();
        argumentsHoldAWord();
        goalHoldsAWord();
        choicesInOrder();
        stringsInOrder();
        noMoreThan20Ends();
        noneOfAnEmptyRow();
        as300AreNotSpent();
        as301AreSpent();
        spentIsOverWithTheRow();
        outermostSlashFirst();
        holesNumberedAsComeTo();
        holesOfEachReading();
        noMoreNumbersOfAMeaning();
        readingsThatAreNone();
        sameMeanings();
        overTheGoalsFirst();
        overIsAHole();
        check.finish("EdgeReadingTest");
    }

    private static WordKeys rowOf(String lexicon, String row) {
        WordKeys x = Check.with(lexicon);
        if (Check.row(x, row) < 0) {
            System.out.println("no row: " + row);
        }
        return x;
    }

    private static void tied(String lexicon, String row, int... ties) {
        WordKeys x = rowOf(lexicon, row);
        check.due("readings of " + row + " by " + lexicon, x.readings(), 1);
        check.dueRow("tied " + row + " by " + lexicon, i -> x.tied(0, i), ties);
    }

    private static void meant(String lexicon, String row, int... meaning) {
        WordKeys x = rowOf(lexicon, row);
        check.due("readings of " + row + " by " + lexicon, x.readings(), 1);
        check.dueRow("meaning of " + row + " by " + lexicon, i -> x.meaning(0, i), meaning);
    }

    private static void evenButNone(String lexicon, String row) {
        WordKeys x = rowOf(lexicon, row);
        check.due("even: " + row + " by " + lexicon, x.even(), 1);
        check.due("but none: " + row + " by " + lexicon, x.readings(), 0);
        check.due("nothing chosen: " + row, x.chosen(0, 0), -1);
        check.due("nothing tied: " + row, x.tied(0, 0), -1);
        check.due("nothing meant: " + row, x.meaning(0, 0), -1);
        check.due("none the same: " + row, x.same(0), -1);
        check.due("nothing over: " + row, x.over(0, 0), -1);
    }

    /** "Of a word: a KIND is one end, GIVEN", ".. of a thing wanted: a KIND is one end, WANTED" */
    private static void endsOfAKind() {
        tied("kind a;word p is a;", "p", 1, 0);
        tied("kind a;word p is ((a));goal (a);", "p", 1, 0);
        WordKeys x = rowOf("kind a;word p is a;", "p p");
        check.due("two GIVEN ends are not tied", x.readings(), 0);
    }

    /** "A / B: the ends of A, then those of B (as of a thing wanted); B \ A: those of B (wanted), then those of A." */
    private static void endsOfASlash() {
        String words = "kind s;kind a;kind b;word p is a;word q is b;";
        tied(words + "word f is s/a;", "f p", 3, 2, 1, 0);
        tied(words + "word f is a\\s;", "p f", 1, 0, 3, 2);
        tied(words + "word f is (s/a)/b;", "f q p", 5, 4, 3, 2, 1, 0);
        tied(words + "word f is a\\(b\\s);", "q p f", 3, 2, 1, 0, 5, 4);
        tied(words + "word f is (a\\s)/b;", "p f q", 1, 0, 5, 4, 3, 2);
        tied(words + "word f is a\\(s/b);", "p f q", 1, 0, 5, 4, 3, 2);
    }

    /** "A / B: the ends of B (as of a word: a HOLE), then those of A (wanted); B \ A: those of A (wanted), then those of B" */
    private static void endsOfAThingWanted() {
        String kinds = "kind s;kind a;kind b;kind c;";
        tied(kinds + "word t is s/(a/b);word q is a/b;", "t q", 5, 4, 3, 2, 1, 0);
        tied(kinds + "word t is (b\\a)\\s;word q is b\\a;", "q t", 3, 2, 1, 0, 5, 4);
        tied(kinds + "word t is s/(b\\a);word q is b\\a;", "t q", 5, 4, 3, 2, 1, 0);
        tied(kinds + "word t is (a/b)\\s;word q is a/b;", "q t", 3, 2, 1, 0, 5, 4);
        // a HOLE that wants something itself, opened as of a word
        tied(kinds + "word t is s/(a/(b/c));word q is a/(b/c);", "t q", 7, 6, 5, 4, 3, 2, 1, 0);
        tied(kinds + "word t is ((c\\b)\\a)\\s;word q is (c\\b)\\a;", "q t", 5, 4, 3, 2, 1, 0, 7, 6);
        tied(kinds + "word t is s/((a/b)/c);word q is (a/b)/c;", "t q", 7, 6, 5, 4, 3, 2, 1, 0);
    }

    /** "then those of the goal (as of a thing wanted)" */
    private static void endsOfTheGoal() {
        tied("kind a;kind b;goal a/b;word q is a/b;", "q", 3, 2, 1, 0);
        tied("kind a;kind b;goal b\\a;word q is b\\a;", "q", 3, 2, 1, 0);
        tied("kind a;kind b;kind c;goal b\\(a/c);word q is (b\\a)/c;", "q", 5, 4, 3, 2, 1, 0);
        tied("kind a;kind b;kind c;kind d;goal ((a/b)/c)/d;word q is ((a/b)/c)/d;", "q", 7, 6, 5, 4, 3, 2, 1, 0);
        WordKeys x = Check.with("kind a;kind b;goal ((a/b)/b)/b;");
        check.due("four ends", x.about(6), 4);
        check.due("one WANTED", x.lacks(0), 1);
        check.due("three GIVEN", x.lacks(1), -3);
    }

    /** "so that no two strings cross" */
    private static void noTwoStringsCross() {
        evenButNone("kind s;kind a;word p is a;word f is s/a;", "p f");
        evenButNone("kind s;kind a;word p is a;word f is a\\s;", "f p");
        evenButNone("kind s;kind a;kind b;word p is a;word q is b;word f is (s/a)/b;", "f p q");
        evenButNone("kind s;kind a;kind b;word p is a;word q is b;word f is a\\(b\\s);", "p q f");
    }

    /** "a GIVEN and a WANTED one of one KIND each" */
    private static void eachKindForItself() {
        WordKeys x = rowOf("kind a;kind b;kind c;kind d;kind e;word p is d;word f is a/e;word g is e/d;", "f p");
        check.due("a d is no e", x.readings(), 0);
        check.due("nor even", x.even(), 0);
        Check.row(x, "f g p");
        check.due("the last KIND", x.readings(), 1);
        x = rowOf("kind a;kind b;word f is a/b;word g is b/b;", "f g");
        check.due("one b is wanted still", x.readings(), 0);
    }

    /** "comes to each word and each HOLE just once": what is tied in a ring is not come to */
    private static void eachWordJustOnce() {
        evenButNone("kind a;kind b;word p is a;word r is b/b;", "r p");
        evenButNone("kind a;kind b;word p is a;word r is b/b;", "p r");
        evenButNone("kind a;kind b;word p is a;word r is b\\b;", "p r");
        evenButNone("kind a;kind b;kind c;word p is a;word r is b/c;word s is c/b;", "p r s");
        // the ring may stand between a word and what it wants
        evenButNone("kind a;kind b;kind c;word f is a/c;word r is b/b;word p is c;", "f r p");
    }

    /** "comes to a HOLE only within what its own thing wanted means" */
    private static void holeWithinItsOwnThing() {
        String words = "kind s;kind n;kind m;word t is s/(m/n);word v is n\\m;word w is m/n;word j is n;word f is (s/n)/m;";
        meant(words, "t w", 0, 200, 1, 100);
        evenButNone(words, "t v");
        // the HOLE of the first thing wanted cannot be what the second one means
        evenButNone("kind s;kind n;kind m;word f is (s/n)/(m/n);word q is m;", "f q");
        evenButNone("kind s;kind n;kind m;word f is (s/(m/n))/n;word q is m;", "f q");
        // nor if that comes out only when the last strings are tied
        evenButNone("kind a;word p is a;word f is (a\\a)\\(a\\a);", "p f");
        evenButNone("kind a;goal a\\a;word f is a\\((a/a)\\a);", "f");
    }

    /** "what each ARGUMENT .. means holds a word, or a HOLE of a thing wanted farther out" */
    private static void argumentsHoldAWord() {
        evenButNone("kind s;kind n;word w is s/(n/n);", "w");
        evenButNone("kind s;kind n;word w is (n\\n)\\s;", "w");
        meant("kind s;kind n;word w is s/(n/n);word i is n/n;", "w i", 0, 200, 1, 100);
        // of a thing wanted farther out: one HOLE is enough
        meant("kind s;kind n;word t is s/(s/n);word v is s/n;", "t v", 0, 200, 1, 100);
        // but not if the thing farther out is nothing but that HOLE
        evenButNone("kind s;kind n;word t is s/(s/n);word u is s/(n/n);word v is (s/n)/s;", "t v u");
    }

    /** ".. and the goal" */
    private static void goalHoldsAWord() {
        WordKeys x = Check.with("kind a;goal a/a;");
        check.due("a goal's own HOLE", x.readings(), 0);
        x = Check.with("kind a;goal (a/a)/(a/a);");
        check.due("two of them", x.readings(), 0);
        meant("kind a;goal a/a;word p is a/a;", "p", 200, 0, 100);
        meant("kind a;kind b;goal (a/b)\\a;word p is b;", "p", 200, 100, 0);
        evenButNone("kind a;kind b;goal a/a;word r is b/b;", "r");
    }

    /** "a choice of tags (rows by number, the first word's tag counts most)" */
    private static void choicesInOrder() {
        WordKeys x = rowOf("kind a;word p is a/a or a/a or a/a;word q is a or a or a;", "p p q");
        check.due("all choices", x.readings(), 27);
        for (int reading = 0; reading < 27; reading++) {
            check.due("first " + reading, x.chosen(reading, 0), reading / 9);
            check.due("second " + reading, x.chosen(reading, 1), reading / 3 % 3);
            check.due("third " + reading, x.chosen(reading, 2), reading % 3);
        }
        check.due("no 28th", x.chosen(27, 0), -1);
        check.due("no fourth", x.chosen(26, 3), -1);
        check.due("none ahead", x.chosen(26, -1), -1);
        check.due("none below", x.chosen(-1, 0), -1);
    }

    /** "of one choice in the order of rows: to which end the first end is tied, then the first that is not tied so far, .." */
    private static void stringsInOrder() {
        WordKeys x = rowOf("kind a;word l is a/a;word x is a;word r is a\\a;", "l l x r r");
        int[][] due = {{5, 2, 1, 4, 3, 0, 7, 6, 9, 8}, {7, 2, 1, 6, 5, 4, 3, 0, 9, 8}, {7, 6, 5, 4, 3, 2, 1, 0, 9, 8},
            {9, 2, 1, 8, 5, 4, 7, 6, 3, 0}, {9, 8, 5, 4, 3, 2, 7, 6, 1, 0}, {9, 8, 7, 6, 5, 4, 3, 2, 1, 0}};
        check.due("readings", x.readings(), due.length);
        for (int r = 0; r < due.length; r++) {
            int reading = r;
            check.dueRow("strings of reading " + r, i -> x.tied(reading, i), due[r]);
        }
    }

    /** "A choice with more than 20 ends has none." */
    private static void noMoreThan20Ends() {
        WordKeys x = rowOf(MANY_ENDS, "m m m m y x");
        check.due("20 ends", x.readings() > 0, true);
        check.due("the 20th", x.tied(0, 19) >= 0, true);
        check.due("no 21st", x.tied(0, 20), -1);
        Check.row(x, "m m m y y x");
        check.due("18 ends", x.readings() > 0, true);
        Check.row(x, "m m m m y y x");
        check.due("22 ends", x.readings(), 0);
        check.due("22 ends are even", x.even(), 1);
        // of whatever word the ends are that are too many
        String[] rows = {"m m m m y x m", "m m m m m y x", "y y y y y y y m", "x m m m m m", "m m m m y m x"};
        for (String row : rows) {
            Check.row(x, row);
            check.due("too many: " + row, x.readings(), 0);
        }
        // the goal's ends count, too
        x = rowOf(MANY_ENDS + "goal (a/a)/a;", "y y y y y y y k");
        check.due("17 and 3", x.readings() > 0, true);
        check.due("the 20th of these", x.tied(0, 19) >= 0, true);
        Check.row(x, "m y y y y y k");
        check.due("17 and 3 again", x.readings() > 0, true);
        Check.row(x, "m y y y y y y k");
        check.due("19 and 3", x.readings(), 0);
        check.due("19 and 3 are even", x.even(), 1);
        // a choice with fewer ends has its own
        WordKeys y = rowOf("kind a;word m is (a/a)/(a/a) or a/a;word y is a/a;word x is a;", "m m y y y y y x");
        check.dueRow("20 ends, or fewer", i -> y.chosen(0, i), 0, 0, 0, 0, 0, 0, 0, 0);
        Check.row(y, "m m m y y y y x");
        check.dueRow("22 ends, or 20", i -> y.chosen(0, i), 0, 0, 1, 0, 0, 0, 0, 0);
    }

    /** "How many READINGS the ROW has (0 of an empty one)" */
    private static void noneOfAnEmptyRow() {
        String[] goals = {"a", "a/a", "(a/a)\\a", "(a/a)/(a/a)"};
        for (String goal : goals) {
            WordKeys x = Check.with("kind a;word p is a;goal " + goal + ";");
            check.due("new: " + goal, x.readings(), 0);
            Check.row(x, "p");
            x.readings();
            Check.row(x, "");
            check.due("empty: " + goal, x.readings(), 0);
            check.due("chosen: " + goal, x.chosen(0, 0), -1);
            check.due("tied: " + goal, x.tied(0, 0), -1);
            check.due("meaning: " + goal, x.meaning(0, 0), -1);
            check.due("same: " + goal, x.same(0), -1);
            check.due("over: " + goal, x.over(0, 0), -1);
        }
    }

    private static int counted(int[][] tags, int... row) {
        Model model = new Model();
        model.kinds = 1;
        model.goal = new Model.T(0);
        List<Model.T> numbered = model.numbered(2);
        for (int[] word : tags) {
            model.words.add(List.of(numbered.get(word[0]), numbered.get(word[1]), numbered.get(word[2])));
        }
        List<Integer> places = new java.util.ArrayList<>();
        for (int word : row) {
            places.add(word);
        }
        return model.readings(model.tagsOf(places), model.goal, 1000).size();
    }

    /** "SPENT: more than 300." */
    private static void as300AreNotSpent() {
        check.due("300 by the model", counted(new int[][] {{0, 1, 1}, {5, 3, 1}}, 0, 1, 1, 1, 1, 0, 0), 300);
        WordKeys x = rowOf(LEXICON_300, ROW_300);
        check.due("300", x.readings(), 300);
        check.due("the last one's tag", x.chosen(299, 6), 0);
        check.due("the last one's string", x.tied(299, 0) > 0, true);
        check.due("the last one's meaning", x.meaning(299, 0) >= 0, true);
        check.due("the last one is like one", x.same(299) >= 0, true);
        check.due("something over its last word", x.over(299, 6) >= 0, true);
        check.due("chosen 300", x.chosen(300, 0), -1);
        check.due("tied 300", x.tied(300, 0), -1);
        check.due("meaning 300", x.meaning(300, 0), -1);
        check.due("same 300", x.same(300), -1);
        check.due("over 300", x.over(300, 0), -1);
    }

    /** "-2 if SPENT" */
    private static void as301AreSpent() {
        check.due("301 by the model", counted(new int[][] {{1, 3, 5}, {0, 1, 6}}, 0, 1, 0, 1, 1, 0, 1, 1), 301);
        WordKeys x = rowOf(LEXICON_301, ROW_301);
        check.due("readings", x.readings(), -2);
        check.due("chosen", x.chosen(0, 0), -2);
        check.due("chosen 299", x.chosen(299, 7), -2);
        check.due("tied", x.tied(0, 0), -2);
        check.due("tied 299", x.tied(299, 19), -2);
        check.due("meaning", x.meaning(0, 0), -2);
        check.due("meaning 299", x.meaning(299, 0), -2);
        check.due("same", x.same(0), -2);
        check.due("same 299", x.same(299), -2);
        check.due("over", x.over(0, 0), -2);
        check.due("over 299", x.over(299, 7), -2);
        // read so: SPENT is told ahead of what else is wrong
        for (int far : FAR) {
            check.due("chosen " + far, x.chosen(far, 0), -2);
            check.due("chosen at " + far, x.chosen(0, far), -2);
            check.due("tied " + far, x.tied(far, 0), -2);
            check.due("tied at " + far, x.tied(0, far), -2);
            check.due("meaning " + far, x.meaning(far, 0), -2);
            check.due("meaning at " + far, x.meaning(0, far), -2);
            check.due("same " + far, x.same(far), -2);
            check.due("over " + far, x.over(far, 0), -2);
            check.due("over at " + far, x.over(0, far), -2);
        }
        // a ROW with more READINGS than can be told is a sentence all the same
        check.due("lost", x.lost(), 0);
        check.due("added", x.added(0), 0);
        check.due("span", x.span(0, 7, 0), 1);
        check.due("in place", x.inPlace(0) & 1, 1);
        x = rowOf("kind a;word p is a or a or a;word f is a/a or a/a or a/a;", "f f f f f p");
        check.due("729", x.readings(), -2);
        check.due("mended", x.mended(1), 123456);
        x.example(true);
        check.due("judged", x.judge(0), -1);
    }

    private static void spentIsOverWithTheRow() {
        WordKeys x = rowOf(LEXICON_301, ROW_301);
        check.due("spent", x.readings(), -2);
        x.image(0);
        Check.row(x, "wb");
        check.due("not spent", x.readings(), 1);
        check.due("its meaning", x.meaning(0, 0), 0);
        x.back(0);
        check.due("spent again", x.same(0), -2);
        check.due("a row that is none", Check.row(x, "z"), -1);
        check.due("still spent", x.meaning(0, 0), -2);
        Check.row(x, "");
        check.due("an empty row is not spent", x.readings(), 0);
        Check.row(x, ROW_301);
        Check.lexicon(x, LEXICON_300);
        check.due("nor is no row", x.same(0), -1);
    }

    /** "with all that its tag wants ahead of being that KIND, the outermost slash first: that is its ARGUMENTS" */
    private static void outermostSlashFirst() {
        String words = "kind s;kind a;kind b;kind c;word p is a;word q is b;word r is c;";
        meant(words + "word f is ((s/a)/b)/c;", "f r q p", 0, 1, 2, 3);
        meant(words + "word f is ((a\\s)/b)/c;", "p f r q", 1, 2, 3, 0);
        meant(words + "word f is a\\((s/b)/c);", "p f r q", 1, 0, 2, 3);
        meant(words + "word f is c\\(b\\(a\\s));", "p q r f", 3, 2, 1, 0);
    }

    /** "HOLES are numbered from 0 as they are come to": "for a HOLE of a thing wanted 200 and its number" */
    private static void holesNumberedAsComeTo() {
        meant("kind a;kind b;goal (a/b)/b;word f is (a/b)/b;", "f", 200, 201, 0, 100, 101);
        meant("kind a;kind b;goal b\\(a/b);word f is (b\\a)/b;", "f", 200, 201, 0, 101, 100);
        meant("kind a;kind b;kind c;kind d;goal ((a/b)/c)/d;word f is ((a/b)/c)/d;", "f", 200, 201, 202, 0, 100, 101, 102);
        // two ARGUMENTS, each with its own HOLE
        meant("kind s;kind x;kind y;kind n;word g is (s/x)/x;word t is x/(y/n);word v is y/n;", "g t v t v",
            0, 1, 200, 2, 100, 3, 201, 4, 101);
        // a HOLE within what a HOLE wants
        meant("kind s;kind n;word t is s/(s/(s/n));word u is s/(s/n);", "t u", 0, 200, 1, 201, 100, 101);
    }

    /** "HOLES are numbered from 0": by each READING anew. */
    private static void holesOfEachReading() {
        WordKeys x = rowOf("kind s;kind n;word t is s/(s/n) or s/(s/n);word v is s/n or s/n;", "t v");
        check.due("readings", x.readings(), 4);
        for (int r = 0; r < 4; r++) {
            int reading = r;
            check.dueRow("meaning " + r, i -> x.meaning(reading, i), 0, 200, 1, 100);
            check.due("same " + r, x.same(r), 0);
        }
    }

    /** "The i-th number of its MEANING; NONE likewise, or if it has not so many" */
    private static void noMoreNumbersOfAMeaning() {
        WordKeys x = rowOf("kind a;word p is a;", "p");
        check.dueRow("one number", i -> x.meaning(0, i), 0);
        for (int i = 1; i < 70; i++) {
            check.due("meaning at " + i, x.meaning(0, i), -1);
        }
        WordKeys y = rowOf(MANY_ENDS, "y y y y y y y x");
        check.dueRow("eight numbers", i -> y.meaning(0, i), 0, 1, 2, 3, 4, 5, 6, 7);
        WordKeys z = rowOf("kind a;goal ((a/a)/a)/a;word y is a/a;word k is ((a/a)/a)/a;", "y y y y y y k");
        check.due("20 ends", z.tied(0, 19) >= 0, true);
        check.dueRow("all that can be", i -> z.meaning(0, i), 200, 201, 202, 0, 1, 2, 3, 4, 5, 6, 100, 101, 102);
    }

    /** "NONE if one can't be" */
    private static void readingsThatAreNone() {
        WordKeys x = rowOf("kind a;word l is a/a;word x is a;word r is a\\a;", "l x r");
        check.due("readings", x.readings(), 2);
        check.due("the last one's last tag", x.chosen(1, 2), 0);
        check.due("the last one's last end", x.tied(1, 5), 0);
        check.due("the last one's last number", x.meaning(1, 2), 1);
        check.due("over the last one's last word", x.over(1, 2), 0);
        int[][] none = {{2, 0}, {-1, 0}, {0, 3}, {0, -1}, {1, 3}, {1, -1}, {300, 0}, {0, 8}};
        for (int[] such : none) {
            check.due("chosen " + such[0] + " " + such[1], x.chosen(such[0], such[1]), -1);
            check.due("over " + such[0] + " " + such[1], x.over(such[0], such[1]), -1);
            check.due("meaning " + such[0] + " " + such[1], x.meaning(such[0], such[1]), -1);
            check.due("tied " + such[0] + " " + such[1], x.tied(such[0], such[1] == 3 ? 6 : such[1] == 8 ? 20 : such[1]), -1);
        }
        check.due("no third is the same", x.same(2), -1);
        for (int far : FAR) {
            check.due("chosen " + far, x.chosen(far, 0), -1);
            check.due("chosen at " + far, x.chosen(0, far), -1);
            check.due("tied " + far, x.tied(far, 0), -1);
            check.due("tied at " + far, x.tied(0, far), -1);
            check.due("meaning " + far, x.meaning(far, 0), -1);
            check.due("meaning at " + far, x.meaning(0, far), -1);
            check.due("same " + far, x.same(far), -1);
            check.due("over " + far, x.over(far, 0), -1);
            check.due("over at " + far, x.over(0, far), -1);
        }
        for (int end = 6; end < 70; end++) {
            check.due("tied at " + end, x.tied(1, end), -1);
        }
    }

    /** "The first READING whose MEANING is the same; NONE if there is none such" */
    private static void sameMeanings() {
        WordKeys x = rowOf("kind a;word p is a or a or a;", "p");
        check.dueRow("all mean the same", x::same, 0, 0, 0);
        WordKeys y = rowOf("kind a;word f is a/a or a or a/a;word g is a or a\\a or a;", "f g");
        // f g, f g', g' being the other a; then g f twice over, then f'
        check.due("readings", y.readings(), 5);
        check.dueRow("two meanings", y::same, 0, 0, 2, 0, 0);
        // one that goes on longer is another one
        WordKeys z = rowOf("kind s;kind n;word w is s/(s/n) or s/s;word v is s/n or s;", "w v");
        check.due("with a HOLE and without", z.readings(), 2);
        check.dueRow("each its own", z::same, 0, 1);
    }

    /** "none over that which the goal begins with"; "NONE over what the goal begins with" */
    private static void overTheGoalsFirst() {
        WordKeys x = rowOf("kind a;word p is a;", "p");
        check.due("one word", x.over(0, 0), -1);
        WordKeys y = rowOf("kind a;word f is a/a;word p is a;", "f f f f f f f p");
        check.dueRow("a chain", i -> y.over(0, i), -1, 0, 1, 2, 3, 4, 5, 6);
        WordKeys z = rowOf("kind a;goal a/a;word f is a/a;", "f f");
        check.due("behind the goal's HOLE", z.over(0, 0), -1);
        check.due("the next", z.over(0, 1), 0);
    }

    /** "the place of that word, or 100 and the number of that HOLE"; "its own HOLES left out" */
    private static void overIsAHole() {
        WordKeys x = rowOf("kind a;kind b;goal (a/b)\\a;word p is b;", "p");
        check.due("the goal's HOLE", x.over(0, 0), 100);
        WordKeys y = rowOf("kind a;kind b;goal ((a/b)\\a)/b;word p is b;word f is b/b;", "f");
        check.due("readings of two HOLES", y.readings(), 1);
        check.dueRow("their meaning", i -> y.meaning(0, i), 200, 201, 101, 0, 100);
        check.due("the second HOLE", y.over(0, 0), 101);
        // an ARGUMENT's own HOLE does not begin it
        WordKeys z = rowOf("kind s;kind n;word t is s/(s/n);word v is s/n;", "t v");
        check.due("v begins what t wants", z.over(0, 1), 0);
        // a HOLE farther out is over nothing that is a word
        check.due("t is the goal's", z.over(0, 0), -1);
    }
}
