import java.util.List;

/**
 * The edges of promises 15 to 22 and of section 3 of the Terms: each method is headed by the words of the document
 * that it holds the class to.
 */
public final class EdgeRepairTest {
    private static final Check check = new Check();
    private static final String FIVE = "kind a;kind b;kind c;kind d;kind e;";
    private static final int[] FAR = {Integer.MIN_VALUE, Integer.MIN_VALUE + 1, -1000, 1000, 1 << 29, Integer.MAX_VALUE};
    private static final String MANY_ENDS = "kind a;word m is (a/a)/(a/a);word y is a/a;word x is a;";
    /** p, q, r, s, t, u in this order are a sentence, and in no other. */
    private static final String CHAIN = FIVE + "goal e;word p is a;word q is a\\b;word r is b\\c;word s is c\\d;word t is d\\e;"
        + "word u is e\\e;";

    public static void main(String[] args) {
        evenOfAnEmptyRow();
        evenOfAllChoices();
        evenOfEachKind();
        evenOfManyEnds();
        lostOfASentence();
        lostButOneWord();
        lostTheFewest();
        lostTheLeastSet();
        lostOfManyEnds();
        mendedSixAtMost();
        mendedOrNone();
        mendedTheFewestPairs();
        mendedTheFirstOfLikeOnes();
        couldOfNoSuchPlace();
        couldOfSoManySlashes();
        couldOfTheLastNumber();
        couldOfEachNumber();
        couldWithManyEnds();
        spanFromOneToAnother();
        spanThatCannotBe();
        spanWithManyEnds();
        addedToAnEmptyRow();
        addedNone();
        addedOne();
        addedTwo();
        addedNoMoreThanEight();
        addedTheLeastRow();
        addedTheLastWord();
        inPlaceOfNoSuchPlace();
        inPlaceAsBits();
        lacksNoSuchKind();
        lacksOfAnEmptyRow();
        lacksTheLeast();
        lacksTheMost();
        askingChangesNothing();
        check.finish("EdgeRepairTest");
    }

    private static WordKeys rowOf(String lexicon, String row) {
        WordKeys x = Check.with(lexicon);
        if (Check.row(x, row) < 0) {
            System.out.println("no row: " + row);
        }
        return x;
    }

    private static String times(String text, int n) {
        return text.repeat(n);
    }

    /** Read so: an empty ROW has no choices of tags, by whatever goal. */
    private static void evenOfAnEmptyRow() {
        check.due("new", new WordKeys().even(), 0);
        check.due("with a goal", Check.with("kind a;word p is a;").even(), 0);
        check.due("with an even goal", Check.with("kind a;goal a/a;word p is a;").even(), 0);
        WordKeys x = rowOf("kind a;word p is a;", "p");
        check.due("a word", x.even(), 1);
        Check.row(x, "");
        check.due("empty again", x.even(), 0);
    }

    /** "How many choices of tags of the ROW are EVEN.": from none to all of them */
    private static void evenOfAllChoices() {
        WordKeys x = Check.with("kind a;goal a/a;word p is a/a or a\\a or (a/a)/(a/a);");
        int all = 1;
        for (int words = 1; words <= 8; words++) {
            all *= 3;
            Check.row(x, times("p ", words));
            check.due("all of " + words, x.even(), all);
        }
        x = Check.with("kind a;word p is a/a or a\\a or (a/a)/(a/a);");
        Check.row(x, times("p ", 8));
        check.due("none of 8", x.even(), 0);
        x = rowOf("kind a;word p is a/a or a\\a or a;", times("p ", 8));
        check.due("one word the a, the others not", x.even(), 8 * 128);
        x = rowOf("kind a;word p is a or a/a;word q is a/a or a/a or a;", "p q");
        check.due("a with a/a, or a/a with a", x.even(), 3);
    }

    /** "of each KIND as many ends are GIVEN as WANTED" */
    private static void evenOfEachKind() {
        WordKeys x = rowOf(FIVE + "word p is a;word q is b;word f is b/a;word g is a/e;word h is e;", "p");
        check.due("one", x.even(), 1);
        Check.row(x, "q");
        check.due("one a WANTED, one b GIVEN", x.even(), 0);
        Check.row(x, "p f");
        check.due("an a GIVEN too few, a b too many", x.even(), 0);
        Check.row(x, "g h");
        check.due("the last KIND", x.even(), 1);
        Check.row(x, "h g");
        check.due("in any order", x.even(), 1);
        Check.row(x, "g");
        check.due("one e WANTED", x.even(), 0);
        Check.row(x, "p p");
        check.due("two GIVEN, one WANTED", x.even(), 0);
    }

    private static void evenOfManyEnds() {
        WordKeys x = rowOf(MANY_ENDS, "m m m m m m m x");
        check.due("30 ends", x.even(), 1);
        x = rowOf("kind a;goal ((a/a)/a)/a;word m is ((a/a)/a)/a or (a/a)/(a/a);", times("m ", 8));
        check.due("36 ends", x.even(), 8);
        x = rowOf("kind a;kind b;goal a;word p is ((b/b)/b)/b;word q is b/((a/b)/b);", "p p p p p p p p");
        check.due("all too few", x.even(), 0);
        Check.row(x, "q q q q q q q q");
        check.due("all too many", x.even(), 0);
    }

    /** "0 if it is a sentence"; "NONE if there is none" */
    private static void lostOfASentence() {
        check.due("new", new WordKeys().lost(), -1);
        WordKeys x = Check.with("kind a;kind b;word p is a;word f is a/a;word q is b;");
        check.due("an empty row", x.lost(), -1);
        Check.row(x, "p");
        check.due("one word", x.lost(), 0);
        Check.row(x, "f f f f f f f p");
        check.due("eight words", x.lost(), 0);
        Check.row(x, "q");
        check.due("one word that is none", x.lost(), -1);
        Check.row(x, times("q ", 8));
        check.due("eight words that are none", x.lost(), -1);
        x = rowOf("kind a;goal a/a;word p is a;", "p");
        check.due("no word is no sentence, even with an even goal", x.lost(), -1);
    }

    /** "one word at least stays" */
    private static void lostButOneWord() {
        WordKeys x = rowOf("kind a;kind b;word p is a;word q is b;", "q q q q q q q p");
        check.due("the last stays", x.lost(), 0b01111111);
        Check.row(x, "p q q q q q q q");
        check.due("the first stays", x.lost(), 0b11111110);
        Check.row(x, "q q q q p q q q");
        check.due("one between stays", x.lost(), 0b11101111);
        Check.row(x, "p q");
        check.due("the second is too many", x.lost(), 2);
        Check.row(x, "q p");
        check.due("the first is too many", x.lost(), 1);
    }

    /** "the fewest words to be left out" */
    private static void lostTheFewest() {
        WordKeys x = rowOf("kind s;word p is s;word g is s\\s;", "p g p");
        check.due("one, though its bit is higher than two others", x.lost(), 4);
        Check.row(x, "p p g g g g g g");
        check.due("one of eight", x.lost(), 1);
        Check.row(x, "p g g g g g g p");
        check.due("the last of eight", x.lost(), 128);
    }

    /** "of like ones the least set (as bits of places)" */
    private static void lostTheLeastSet() {
        WordKeys x = rowOf("kind a;word p is a;", "p p");
        check.due("of two", x.lost(), 1);
        Check.row(x, "p p p");
        check.due("of three", x.lost(), 3);
        Check.row(x, times("p ", 8));
        check.due("of eight", x.lost(), 127);
        x = rowOf("kind a;kind b;word p is a;word f is b\\a;word q is b;", "q q f f");
        check.due("two sets: places 0 and 2, ahead of 0 and 3", x.lost(), 0b0101);
    }

    private static void lostOfManyEnds() {
        WordKeys x = rowOf(MANY_ENDS, "m m m m y x");
        check.due("20 ends", x.lost(), 0);
        Check.row(x, "m m m m y y x");
        check.due("22 ends: an m less", x.lost(), 1);
        Check.row(x, "y m m m m y x");
        check.due("22 ends: the first y less", x.lost(), 1);
    }

    /** "MENDED: of all orders of the ROW's words (6 words at most)"; "-2 with more than 6 words" */
    private static void mendedSixAtMost() {
        WordKeys x = rowOf(CHAIN, "u t s r q p");
        check.due("six words, pairs", x.mended(0), 15);
        check.due("six words, order", x.mended(1), 654321);
        Check.row(x, "p q r s t u");
        check.due("six words in order", x.mended(0), 0);
        check.due("as they are", x.mended(1), 123456);
        Check.row(x, "p q r s t u u");
        check.due("seven words", x.mended(0), -2);
        check.due("seven words, order", x.mended(1), -2);
        Check.row(x, "p q r s t u u u");
        check.due("eight words", x.mended(0), -2);
        check.due("eight words, order", x.mended(1), -2);
        Check.row(x, "p p p p p p");
        check.due("six words, none", x.mended(0), -1);
        check.due("six words, no order", x.mended(1), -1);
    }

    /** "NONE if there is none, the ROW is empty, or for another what" */
    private static void mendedOrNone() {
        WordKeys x = Check.with(CHAIN);
        check.due("an empty row", x.mended(0), -1);
        check.due("an empty row's order", x.mended(1), -1);
        Check.row(x, "t s r q p");
        int[] others = {-1, 2, 3};
        for (int what : others) {
            check.due("mended " + what, x.mended(what), -1);
        }
        for (int what : FAR) {
            check.due("mended " + what, x.mended(what), -1);
        }
        check.due("pairs", x.mended(0), 10);
        check.due("order", x.mended(1), 54321);
        Check.row(x, "p");
        check.due("one word that is none", x.mended(0), -1);
        check.due("its order", x.mended(1), -1);
        x = rowOf("kind a;word p is a;", "p");
        check.due("one word", x.mended(0), 0);
        check.due("one word's order", x.mended(1), 1);
    }

    /** "the fewest pairs of words that stand the other way about" */
    private static void mendedTheFewestPairs() {
        WordKeys x = rowOf(CHAIN, "q p r s t");
        check.due("neighbours", x.mended(0), 1);
        check.due("their order", x.mended(1), 21345);
        Check.row(x, "p q r t s");
        check.due("the last ones", x.mended(0), 1);
        check.due("the last ones' order", x.mended(1), 12354);
        Check.row(x, "t p q r s");
        check.due("one from the first place to the last", x.mended(0), 4);
        check.due("its order", x.mended(1), 23451);
        Check.row(x, "q r s t p");
        check.due("one from the last place to the first", x.mended(0), 4);
        check.due("its order", x.mended(1), 51234);
        // like words keep their order: to change them about would be one pair more
        Check.row(x, "u u t s r q");
        check.due("no p", x.mended(0), -1);
        x = rowOf("kind a;word p is a;word g is a\\a;", "g g g g g p");
        check.due("all behind the last", x.mended(0), 5);
        check.due("in their order", x.mended(1), 612345);
    }

    /** "of like ones the first (by places, the first one counts most)" */
    private static void mendedTheFirstOfLikeOnes() {
        WordKeys x = rowOf(FIVE + "word x is b or (a/e)/d;word y is (a/c)/b or e;word z is c or d;", "x y z");
        check.due("y x z and x z y", x.mended(0), 1);
        check.due("x z y is the first", x.mended(1), 132);
        x = rowOf("kind a;kind b;word f is (b\\a)/b;word p is b;word q is b;", "p q f");
        check.due("p f q", x.mended(1), 132);
        Check.row(x, "f q p");
        check.due("q f p", x.mended(1), 213);
    }

    private static void couldBe(WordKeys x, int place, int n, int many, int least) {
        check.due("could " + place + " " + n + " 0", x.could(place, n, 0), many);
        check.due("could " + place + " " + n + " 1", x.could(place, n, 1), least);
    }

    /** "NONE if there is no such place, or n, or what (1: none)" */
    private static void couldOfNoSuchPlace() {
        WordKeys x = Check.with("kind a;word p is a;word f is a/a;");
        couldBe(x, 0, 0, -1, -1);
        Check.row(x, "f f f f f f f p");
        couldBe(x, 7, 0, 1, 0);
        couldBe(x, 0, 0, 0, -1);
        int[][] none = {{8, 0, 0}, {-1, 0, 0}, {0, -1, 0}, {0, 3, 0}, {0, 0, -1}, {0, 0, 2}, {8, 3, 2}, {7, 2, 2}, {7, -1, 1},
            {7, 3, 1}, {-1, 2, 1}, {8, 2, 1}};
        for (int[] such : none) {
            check.due("could " + such[0] + " " + such[1] + " " + such[2], x.could(such[0], such[1], such[2]), -1);
        }
        for (int far : FAR) {
            check.due("could at " + far, x.could(far, 2, 0), -1);
            check.due("could with " + far, x.could(0, far, 0), -1);
            check.due("could what " + far, x.could(0, 2, far), -1);
        }
        Check.row(x, "p");
        couldBe(x, 1, 0, -1, -1);
        couldBe(x, 0, 0, 1, 0);
    }

    /** "COULD of a place and n (0 .. 2): tags of n slashes at most" */
    private static void couldOfSoManySlashes() {
        WordKeys x = rowOf("kind s;kind n;word j is n;word r is n\\s;", "j r");
        // n; s/(n\s) is 2 + 8 + 6
        couldBe(x, 0, 0, 1, 1);
        couldBe(x, 0, 1, 1, 1);
        couldBe(x, 0, 2, 2, 1);
        // n\s
        couldBe(x, 1, 0, 0, -1);
        couldBe(x, 1, 1, 1, 8);
        couldBe(x, 1, 2, 1, 8);
        Check.row(x, "r j");
        // s/n for r; the second word has (n\s)\s
        couldBe(x, 0, 0, 0, -1);
        couldBe(x, 0, 1, 1, 3);
        couldBe(x, 1, 0, 0, -1);
        couldBe(x, 1, 1, 0, -1);
        check.due("two slashes", x.could(1, 2, 0) >= 1, true);
        check.due("the least of these", x.could(1, 2, 1), 2 + 8 + 16 + 16 + 16 + 6 * 2);
        Check.row(x, "r");
        couldBe(x, 0, 0, 1, 0);
    }

    /** The last NUMBER of all with five KINDS, and the last one of one slash. */
    private static void couldOfTheLastNumber() {
        WordKeys x = rowOf(FIVE + "goal e;word p is e;word f is e\\e;", "f p");
        couldBe(x, 1, 0, 0, -1);
        couldBe(x, 1, 1, 0, -1);
        couldBe(x, 1, 2, 1, 1054);
        Check.row(x, "p p");
        couldBe(x, 1, 0, 0, -1);
        couldBe(x, 1, 1, 1, 54);
        couldBe(x, 0, 1, 1, 29);
        Check.row(x, "f");
        couldBe(x, 0, 0, 1, 4);
        couldBe(x, 0, 2, 1, 4);
        x = rowOf(FIVE + "word p is b;", "p");
        couldBe(x, 0, 0, 1, 0);
        couldBe(x, 0, 1, 1, 0);
        couldBe(x, 0, 2, 1, 0);
    }

    /** Each tag as goal of one word: itself, and those few that come to the same, as the plain model finds them. */
    private static void couldOfEachNumber() {
        for (int number = 0; number < 11; number++) {
            couldAsTheModel(1, number);
        }
        for (int number = 0; number < 74; number++) {
            couldAsTheModel(2, number);
        }
        int[] firstsAndLasts = {0, 4, 5, 29, 30, 54, 55, 304, 305, 554, 555, 804, 805, 1054};
        for (int number : firstsAndLasts) {
            couldAsTheModel(5, number);
        }
    }

    private static void couldAsTheModel(int kinds, int goal) {
        Model model = new Model();
        model.kinds = kinds;
        model.goal = model.numbered(2).get(goal);
        model.words.add(List.of(new Model.T(0)));
        WordKeys x = rowOf(model.text(), Model.textOf(List.of(0)));
        for (int n = 0; n <= 2; n++) {
            int[] due = model.could(List.of(0), 0, n);
            couldBe(x, 0, n, due[0], due[1]);
            check.due("itself: " + model.text(), due[0] > 0 || goal >= model.numbered(n).size(), true);
        }
    }

    private static void couldWithManyEnds() {
        WordKeys x = rowOf(MANY_ENDS, "m m m m y y x");
        couldBe(x, 0, 0, 0, -1);
        check.due("20 ends then", x.could(0, 1, 1), 1);
        Check.row(x, "m m m m m y x");
        couldBe(x, 0, 2, 0, -1);
    }

    /** "SPAN: words of the ROW from a place to another one (all of them, that one, too) with a KIND as goal" */
    private static void spanFromOneToAnother() {
        WordKeys x = rowOf("kind s;kind n;goal n/n;word j is n;word l is (n\\s)/n;word f is s/s;", "f f f f f j l j");
        check.due("all eight", x.span(0, 7, 0), 1);
        check.due("the last three", x.span(5, 7, 0), 1);
        check.due("without the first of these", x.span(6, 7, 0), 0);
        check.due("without the last of these", x.span(5, 6, 0), 0);
        check.due("the last one", x.span(7, 7, 1), 1);
        check.due("the last one, another KIND", x.span(7, 7, 0), 0);
        check.due("the first one", x.span(0, 0, 0), 0);
        check.due("one between", x.span(5, 5, 1), 1);
        check.due("the row by its own goal", x.readings(), 0);
    }

    /** "NONE if one can't be (to no less than from)" */
    private static void spanThatCannotBe() {
        WordKeys x = Check.with(FIVE + "goal e;word p is e;");
        check.due("of an empty row", x.span(0, 0, 0), -1);
        Check.row(x, "p p p");
        check.due("the last KIND", x.span(2, 2, 4), 1);
        check.due("the first KIND", x.span(2, 2, 0), 0);
        int[][] none = {{0, 0, 5}, {0, 0, -1}, {-1, 0, 4}, {0, 3, 4}, {3, 3, 4}, {2, 1, 4}, {1, 0, 4}, {-1, -1, 4}, {2, 0, 4},
            {0, 8, 4}, {8, 8, 4}};
        for (int[] such : none) {
            check.due("span " + such[0] + " " + such[1] + " " + such[2], x.span(such[0], such[1], such[2]), -1);
        }
        for (int far : FAR) {
            check.due("span from " + far, x.span(far, 2, 4), -1);
            check.due("span to " + far, x.span(0, far, 4), -1);
            check.due("span of " + far, x.span(0, 0, far), -1);
        }
        check.due("without KINDS", new WordKeys().span(0, 0, 0), -1);
    }

    private static void spanWithManyEnds() {
        WordKeys x = rowOf(MANY_ENDS + "goal ((a/a)/a)/a;", "m m m m y y x");
        check.due("22 ends", x.span(0, 6, 0), 0);
        check.due("18 ends", x.span(1, 6, 0), 1);
        Check.row(x, "m m m m y x");
        check.due("20 ends, the KIND's one end with them", x.span(0, 5, 0), 1);
    }

    private static void added(WordKeys x, String row, int... due) {
        Check.row(x, row);
        for (int what = 0; what < 5; what++) {
            check.due("added " + what + ": " + row, x.added(what), due[what]);
        }
    }

    /** "NONE if two are not enough, the ROW is empty, or what asks for one that is not put in" */
    private static void addedToAnEmptyRow() {
        added(new WordKeys(), "", -1, -1, -1, -1, -1);
        WordKeys x = Check.with("kind a;word p is a;");
        added(x, "", -1, -1, -1, -1, -1);
        added(x, "p", 0, -1, -1, -1, -1);
        added(x, "", -1, -1, -1, -1, -1);
        added(x, "p p", -1, -1, -1, -1, -1);
        x = Check.with("kind a;kind b;word f is a/b;word p is b;");
        added(x, "", -1, -1, -1, -1, -1);
        added(x, "f", 1, 1, -1, 1, -1);
        added(x, "", -1, -1, -1, -1, -1);
        x = Check.with("kind a;kind b;word q is b;word f is ((a/b)/b)/b;");
        added(x, "f q q q", 0, -1, -1, -1, -1);
        added(x, "f q q", 1, 1, -1, 0, -1);
        added(x, "f q", 2, 1, 1, 0, 0);
        added(x, "f", -1, -1, -1, -1, -1);
    }

    private static void addedNone() {
        WordKeys x = Check.with("kind a;word p is a;word f is a/a;");
        added(x, "f f f f f f f p", 0, -1, -1, -1, -1);
        Check.row(x, "f");
        int[] others = {-1, 5, 6};
        for (int what : others) {
            check.due("added " + what, x.added(what), -1);
        }
        for (int what : FAR) {
            check.due("added " + what, x.added(what), -1);
        }
        check.due("how many", x.added(0), 1);
    }

    /** "each so that it stands at a place (0 .. as many as there are) then" */
    private static void addedOne() {
        WordKeys x = Check.with("kind a;kind b;word p is b;word f is a/b;word g is b\\a;");
        added(x, "p", 1, 0, -1, 1, -1);
        added(x, "f", 1, 1, -1, 0, -1);
        added(x, "g", 1, 0, -1, 0, -1);
        x = Check.with("kind a;word p is a;word f is a/a;");
        added(x, "f f f f f f f", 1, 7, -1, 0, -1);
    }

    private static void addedTwo() {
        WordKeys x = Check.with("kind s;kind a;kind b;word p is a;word q is b;word f is (a\\s)/b;");
        added(x, "f", 2, 0, 2, 0, 1);
        added(x, "p", 2, 1, 1, 1, 2);
        added(x, "q", 2, 0, 1, 0, 2);
        // of a LEXICON of one WORD
        added(Check.with("kind b;kind a;word p is a or (b/a)/a;"), "p", 2, 0, 0, 0, 0);
        // put in one behind the other: the second one's place is that of the ROW with the first one
        x = Check.with("kind s;kind a;kind b;word q is b;word p is a;word f is (a\\s)/b;");
        added(x, "f", 2, 0, 2, 1, 0);
    }

    /** "8 words then at most" */
    private static void addedNoMoreThanEight() {
        WordKeys x = Check.with("kind s;kind a;word f is s/s;word g is (s/a)/a;word p is a;word o is s;");
        added(x, "f f f f f g", 2, 6, 6, 2, 2);
        added(x, "f f f f f f g", -1, -1, -1, -1, -1);
        added(x, "f f f f f g p", 1, 6, -1, 2, -1);
        added(x, "f f f f f f g p", -1, -1, -1, -1, -1);
        added(x, "f f f f f g p p", 0, -1, -1, -1, -1);
        added(x, "f f f f f f f", 1, 7, -1, 3, -1);
        added(x, "f f f f f f f f", -1, -1, -1, -1, -1);
        // what would be the ninth is not left out
        x = Check.with("kind s;kind b;word f is s/s;word o is s;word z is b;");
        added(x, "f f f f f f z", -1, -1, -1, -1, -1);
        added(x, "f f f f f f f z", -1, -1, -1, -1, -1);
        x = Check.with("kind s;kind b;word o is s;word f is s/s;word z is b/b;");
        added(x, "f f f f f f z", -1, -1, -1, -1, -1);
        added(x, "f f f f f f f z", -1, -1, -1, -1, -1);
    }

    /** "of like ones the least row of the first one's place, its WORD's number, the second one's place, its number" */
    private static void addedTheLeastRow() {
        WordKeys x = Check.with("kind s;kind a;kind b;word q is b;word p is a;word o is a;word f is b\\(a\\s);");
        // a b f: b at 0, then an a at 0, ahead of it; the least of both a's
        added(x, "f", 2, 0, 0, 0, 1);
        // the first word's place counts most, then its number
        x = Check.with("kind s;kind a;word f is s/a;word p is a;word o is a;word g is a\\s;");
        added(x, "p", 1, 0, -1, 0, -1);
        added(x, "f", 1, 1, -1, 1, -1);
        x = Check.with("kind s;kind a;word g is a\\s;word f is s/a;word p is a;");
        added(x, "p", 1, 0, -1, 1, -1);
        // places ahead of numbers: at 1 there is a WORD of a lesser number, at 0 one of a greater
        x = Check.with("kind s;kind a;kind b;word g is b\\s;word h is a\\s;word f is s/b;word q is b;word p is a;");
        added(x, "q", 1, 0, -1, 2, -1);
        added(x, "p", 1, 1, -1, 1, -1);
    }

    private static String elevenOf(String tag) {
        StringBuilder text = new StringBuilder();
        for (int i = 0; i < 11; i++) {
            text.append("word w").append((char) ('a' + i)).append(" is ").append(tag).append(";");
        }
        return text.toString();
    }

    private static void addedTheLastWord() {
        WordKeys x = Check.with("kind a;kind b;" + elevenOf("a/b") + "word p is b;");
        added(x, "wa", 1, 1, -1, 11, -1);
        x = Check.with("kind a;kind b;" + elevenOf("(a/b)/b") + "word p is b;");
        added(x, "wk", 2, 1, 1, 11, 11);
        added(x, "p p", 1, 0, -1, 0, -1);
    }

    /** "IN PLACE, as bits; NONE if there is no such place." */
    private static void inPlaceOfNoSuchPlace() {
        check.due("new", new WordKeys().inPlace(0), -1);
        WordKeys x = Check.with("kind a;word p is a;word f is a/a;");
        check.due("an empty row", x.inPlace(0), -1);
        Check.row(x, "f f f f f f f p");
        check.due("the first", x.inPlace(0), 2);
        check.due("the last", x.inPlace(7), 1);
        check.due("behind it", x.inPlace(8), -1);
        check.due("ahead", x.inPlace(-1), -1);
        for (int far : FAR) {
            check.due("in place " + far, x.inPlace(far), -1);
        }
        Check.row(x, "f");
        check.due("of one word", x.inPlace(0), 1);
        check.due("behind one word", x.inPlace(1), -1);
    }

    private static void inPlaceAsBits() {
        WordKeys x = rowOf("kind a;kind b;" + elevenOf("a") + "word p is a;", "p");
        check.due("all twelve", x.inPlace(0), 4095);
        x = rowOf("kind a;kind b;" + elevenOf("b") + "word p is a;", "wa");
        check.due("the twelfth", x.inPlace(0), 2048);
        x = rowOf("kind a;kind b;word p is a;" + elevenOf("b"), "wa");
        check.due("the first", x.inPlace(0), 1);
        x = rowOf("kind a;kind b;word p is b;word q is b or b or a;", "p");
        check.due("by the third tag", x.inPlace(0), 2);
        Check.row(x, "p p");
        check.due("none", x.inPlace(1), 0);
        x = rowOf(MANY_ENDS, "m m m m y y x");
        check.due("22 ends, or 20 with a y", x.inPlace(0), 2);
    }

    /** "SHORT; -1000 if there is no such KIND" */
    private static void lacksNoSuchKind() {
        check.due("new", new WordKeys().lacks(0), -1000);
        WordKeys x = rowOf(FIVE + "goal e;word p is e;", "p");
        check.due("the last KIND", x.lacks(4), 0);
        check.due("one behind", x.lacks(5), -1000);
        check.due("one ahead", x.lacks(-1), -1000);
        for (int far : FAR) {
            check.due("lacks " + far, x.lacks(far), -1000);
        }
        Check.lexicon(x, "kind a;");
        check.due("of one", x.lacks(0), 1);
        check.due("no second one", x.lacks(1), -1000);
    }

    /** "of an empty ROW: by the goal alone" */
    private static void lacksOfAnEmptyRow() {
        WordKeys x = Check.with(FIVE + "goal ((a/b)/b)/c;word p is a;");
        check.due("WANTED", x.lacks(0), 1);
        check.due("GIVEN, twice", x.lacks(1), -2);
        check.due("GIVEN", x.lacks(2), -1);
        check.due("neither", x.lacks(3), 0);
        check.due("nor the last", x.lacks(4), 0);
        Check.row(x, "p");
        check.due("with a word", x.lacks(0), 0);
        Check.row(x, "");
        check.due("empty again", x.lacks(0), 1);
        x = Check.with("kind a;goal a/a;");
        check.due("even by itself", x.lacks(0), 0);
    }

    /** "of all choices of tags the least number by which ends that are WANTED are more than those that are GIVEN" */
    private static void lacksTheLeast() {
        String[] orders = {"b or a/b or b\\(b\\a)", "a/b or b or (a/b)/b", "(a/b)/b or a/b or b"};
        for (String tags : orders) {
            WordKeys x = rowOf("kind a;kind b;word p is " + tags + ";", "p p p");
            check.due("b: " + tags, x.lacks(1), -3);
            check.due("a: " + tags, x.lacks(0), -2);
        }
        WordKeys x = rowOf("kind a;kind b;word p is (a/b)/b or ((a/b)/b)/b or a/b;", "p p");
        check.due("the least of what is WANTED", x.lacks(1), 2);
    }

    /** The most that can be WANTED or GIVEN in all, and no KIND runs over into the next. */
    private static void lacksTheMost() {
        for (int kind = 0; kind < 5; kind++) {
            String k = "" + (char) ('a' + kind);
            String other = "" + (char) ('a' + (kind + 1) % 5);
            String wanting = other + "/" + k;
            WordKeys x = rowOf(FIVE + "goal " + k + ";word p is ((" + wanting + ")/" + k + ")/" + k + ";", times("p ", 8));
            check.due("25 of " + k, x.lacks(kind), 25);
            check.due("8 too many of " + other, x.lacks((kind + 1) % 5), -8);
            check.due("none of another", x.lacks((kind + 2) % 5), 0);
            String giving = k + "/((" + wanting + ")/" + k + ")";
            x = rowOf(FIVE + "goal ((" + wanting + ")/" + k + ")/" + k + ";word p is " + giving + ";", times("p ", 8));
            check.due("27 too many of " + k, x.lacks(kind), -27);
            check.due("9 of " + other, x.lacks((kind + 1) % 5), 9);
            check.due("none of a third", x.lacks((kind + 3) % 5), 0);
        }
    }

    /** Whatever is asked, in whatever order, with whatever numbers: nothing changes. */
    private static void askingChangesNothing() {
        new Twins(check, x -> {
            Check.lexicon(x, CHAIN);
            Check.row(x, "p q");
            x.example(false);
            x.later(2);
            x.image(1);
            Check.row(x, "p r q t s");
            Check.type(x, "q p");
        }).refused("asking", EdgeRepairTest::askWildly, 0).alike("asking");
    }

    private static long askWildly(WordKeys x) {
        for (int i = -2; i < 9; i++) {
            x.inPlace(i);
            x.could(i, 9 - i, 0);
            x.could(i, 2, 1);
            x.could(8 - i, 1, 0);
            x.span(i, 8 - i, i);
            x.added(i);
            x.lacks(i);
            x.mended(i);
            x.over(i, i);
            x.chosen(i, i);
            x.tied(i, i);
            x.meaning(i, i);
            x.same(i);
            x.judge(i);
            x.learnt(i, i);
            x.tags(i);
            x.number(i, i);
            x.at(i);
            x.fault(i);
            x.about(i);
        }
        x.readings();
        x.lost();
        x.even();
        return 0;
    }
}
