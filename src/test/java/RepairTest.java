/** Promises 15 to 22: why a ROW is no sentence, and what would make it one. */
public final class RepairTest {
    private static final Check check = new Check();
    private static final String SENTENCES = "kind s;kind n;word j is n;word m is n;word r is n\\s;word l is (n\\s)/n;";

    public static void main(String[] args) {
        even();
        lost();
        mended();
        could();
        span();
        added();
        addedTwo();
        inPlace();
        lacks();
        changes();
        check.finish("RepairTest");
    }

    private static void even() {
        WordKeys x = Check.with(SENTENCES);
        check.due("even of an empty row", x.even(), 0);
        Check.row(x, "j r");
        check.due("even", x.even(), 1);
        Check.row(x, "r j");
        check.due("even in the wrong order", x.even(), 1);
        Check.row(x, "j j r");
        check.due("not even", x.even(), 0);
        x = Check.with("kind a;kind b;word p is a or a or b;word q is a/a or b/b or a;");
        Check.row(x, "p q");
        check.due("even choices", x.even(), 4);
        Check.row(x, "q q q q q q q q");
        check.due("of eight words", x.even(), 8 * 128);
        x = Check.with("kind a;goal ((a/a)/a)/a;word p is ((a/a)/a)/a;");
        Check.row(x, "p");
        check.due("even with a long goal", x.even(), 1);
        x = Check.with("kind a;word m is (a/a)/(a/a);word x is a;");
        Check.row(x, "m m m m m m m x");
        check.due("even with 30 ends", x.even(), 1);
        check.due("though no reading", x.readings(), 0);
    }

    private static void lost() {
        WordKeys x = Check.with(SENTENCES);
        check.due("lost of an empty row", x.lost(), -1);
        Check.row(x, "j r");
        check.due("lost of a sentence", x.lost(), 0);
        Check.row(x, "j m r");
        check.due("the least set of two", x.lost(), 1);
        Check.row(x, "r j r");
        check.due("the first r", x.lost(), 1);
        Check.row(x, "j r m");
        check.due("the last word", x.lost(), 4);
        Check.row(x, "j");
        check.due("one word stays", x.lost(), -1);
        Check.row(x, "r j");
        check.due("none in the wrong order", x.lost(), -1);
        Check.row(x, "r r l j m l r r");
        check.due("the fewest, of these the least", x.lost(), 0b01101111);
        x = Check.with("kind a;word p is a;");
        Check.row(x, "p p p p p p p p");
        check.due("all but one", x.lost(), 127);
        x = Check.with("kind a;word m is (a/a)/(a/a);word y is a/a;word x is a;");
        Check.row(x, "m m m m m y x");
        check.due("too many ends", x.lost(), 1);
    }

    private static void order(WordKeys x, String row, int pairs, int digits) {
        Check.row(x, row);
        check.due("mended(0): " + row, x.mended(0), pairs);
        check.due("mended(1): " + row, x.mended(1), digits);
    }

    private static void mended() {
        WordKeys x = Check.with(SENTENCES);
        check.due("mended of an empty row", x.mended(0), -1);
        check.due("order of an empty row", x.mended(1), -1);
        order(x, "j r", 0, 12);
        order(x, "r j", 1, 21);
        order(x, "l j m", 1, 213);
        order(x, "j m l", 1, 132);
        order(x, "l m j", 1, 213);
        order(x, "j", -1, -1);
        order(x, "j m r", -1, -1);
        Check.row(x, "r j");
        check.due("mended(2)", x.mended(2), -1);
        check.due("mended(-1)", x.mended(-1), -1);
        Check.row(x, "j r j r j r j");
        check.due("seven words", x.mended(0), -2);
        check.due("seven words, 1", x.mended(1), -2);
        Check.row(x, "j r j r j r");
        check.due("six words", x.mended(0), -1);
        x = Check.with("kind a;kind b;kind c;kind d;word p is a;word q is a\\b;word r is b\\c;word s is c\\d;goal d;"
            + "word t is d\\d;");
        order(x, "s r q p", 6, 4321);
        order(x, "t s r q p", 10, 54321);
        order(x, "t t s r q p", 14, 654312);
        order(x, "p q t r t s", 3, 124635);
        check.due("order with one word twice", x.mended(1), 124635);
    }

    private static void could() {
        WordKeys x = Check.with(SENTENCES);
        check.due("could of an empty row", x.could(0, 0, 0), -1);
        Check.row(x, "j r");
        check.due("j could be: n", x.could(0, 0, 0), 1);
        check.due("j could be number", x.could(0, 0, 1), 1);
        // n, or s/(n\s): two slashes
        check.due("one slash at most", x.could(0, 1, 0), 1);
        check.due("two slashes at most", x.could(0, 2, 0), 2);
        check.due("the least stays", x.could(0, 2, 1), 1);
        check.due("r could not be a kind", x.could(1, 0, 0), 0);
        check.due("no least", x.could(1, 0, 1), -1);
        check.due("r could be n\\s", x.could(1, 1, 0), 1);
        check.due("its number", x.could(1, 1, 1), 8);
        Check.row(x, "r");
        check.due("in place of one word", x.could(0, 0, 1), 0);
        int[][] wrong = {{-1, 0, 0}, {1, 0, 0}, {8, 0, 0}, {0, -1, 0}, {0, 3, 0}, {0, 0, -1}, {0, 0, 2}};
        for (int[] w : wrong) {
            check.due("could " + w[0] + " " + w[1] + " " + w[2], x.could(w[0], w[1], w[2]), -1);
        }
        // in place of the tags at that place only, not of the same word elsewhere
        x = Check.with("kind a;kind b;word p is b;");
        Check.row(x, "p p");
        check.due("p p", x.could(0, 1, 0), 1);
        check.due("p p: a/b", x.could(0, 1, 1), 3);
        check.due("p p behind: b\\a", x.could(1, 1, 1), 8);
    }

    private static void span() {
        WordKeys x = Check.with(SENTENCES);
        check.due("span of an empty row", x.span(0, 0, 0), -1);
        Check.row(x, "j l m");
        check.due("all of them", x.span(0, 2, 0), 1);
        check.due("with another kind", x.span(0, 2, 1), 0);
        check.due("one word", x.span(2, 2, 1), 1);
        check.due("one word of another kind", x.span(2, 2, 0), 0);
        check.due("two words", x.span(1, 2, 0), 0);
        int[][] wrong = {{-1, 0, 0}, {0, 3, 0}, {3, 3, 0}, {2, 1, 0}, {0, 0, -1}, {0, 0, 2},
            {Integer.MIN_VALUE, Integer.MAX_VALUE, 0}, {0, 0, Integer.MAX_VALUE}};
        for (int[] w : wrong) {
            check.due("span " + w[0] + " " + w[1] + " " + w[2], x.span(w[0], w[1], w[2]), -1);
        }
        x = Check.with("kind a;kind b;goal a/b;word p is a;word q is a/b;");
        Check.row(x, "p q");
        check.due("the goal is the kind alone", x.span(0, 0, 0), 1);
        check.due("not the lexicon's goal", x.span(1, 1, 0), 0);
    }

    private static void put(WordKeys x, String row, int... due) {
        Check.row(x, row);
        for (int what = 0; what < 5; what++) {
            check.due("added(" + what + "): " + row, x.added(what), due[what]);
        }
    }

    private static void added() {
        WordKeys x = Check.with(SENTENCES);
        check.due("added to an empty row", x.added(0), -1);
        put(x, "j r", 0, -1, -1, -1, -1);
        put(x, "j", 1, 1, -1, 2, -1);
        put(x, "r", 1, 0, -1, 0, -1);
        put(x, "l m", 1, 0, -1, 0, -1);
        put(x, "j m", 1, 1, -1, 3, -1);
        check.due("added(5)", x.added(5), -1);
        check.due("added(-1)", x.added(-1), -1);
        check.due("added(MIN)", x.added(Integer.MIN_VALUE), -1);
    }

    private static void addedTwo() {
        WordKeys x = Check.with(SENTENCES);
        put(x, "l", 2, 0, 2, 0, 0);
        put(x, "j m r", -1, -1, -1, -1, -1);
        x = Check.with("kind s;kind a;kind b;word p is a;word q is (a\\s)/b;word r is b;word g is s\\s;");
        put(x, "p", 2, 1, 2, 1, 2);
        put(x, "r", 2, 0, 1, 0, 1);
        put(x, "q", 2, 0, 2, 0, 2);
        put(x, "p g g g g g", 2, 1, 2, 1, 2);
        put(x, "p g g g g g g", -1, -1, -1, -1, -1);
        put(x, "p q g g g g g", 1, 2, -1, 2, -1);
        put(x, "p q g g g g g g", -1, -1, -1, -1, -1);
        x = Check.with("kind s;kind a;kind b;word p is a;word q is b;word r is b\\(a\\s);");
        put(x, "r", 2, 0, 1, 0, 1);
        x = Check.with("kind b;kind a;word p is a or (b/a)/a;");
        put(x, "p", 2, 0, 0, 0, 0);
        // at one place twice: the second one stands ahead of the first
        x = Check.with("kind s;kind a;kind b;word q is b;word p is a;word r is b\\(a\\s);");
        put(x, "r", 2, 0, 0, 0, 1);
    }

    private static void inPlace() {
        WordKeys x = Check.with(SENTENCES);
        check.due("inPlace of an empty row", x.inPlace(0), -1);
        Check.row(x, "j l m");
        check.due("first", x.inPlace(0), 3);
        check.due("middle", x.inPlace(1), 8);
        check.due("last", x.inPlace(2), 3);
        check.due("behind", x.inPlace(3), -1);
        check.due("ahead", x.inPlace(-1), -1);
        check.due("far", x.inPlace(Integer.MAX_VALUE), -1);
        Check.row(x, "j j");
        check.due("to make one", x.inPlace(1), 4);
        Check.row(x, "r r r");
        check.due("none could", x.inPlace(0), 0);
        x = Check.with("kind a;word wa is a;word wb is a;word wc is a;word wd is a;word we is a;word wf is a;word wg is a;"
            + "word wh is a;word wi is a;word wj is a;word wk is a/a;word wl is a/a or a;");
        Check.row(x, "wk");
        check.due("twelve words", x.inPlace(0), 0b101111111111);
    }

    private static void lacks() {
        WordKeys x = Check.with(SENTENCES);
        check.due("of an empty row: s", x.lacks(0), 1);
        check.due("of an empty row: n", x.lacks(1), 0);
        Check.row(x, "j j r");
        check.due("s", x.lacks(0), 0);
        check.due("n", x.lacks(1), -1);
        Check.row(x, "l l");
        check.due("s of l l", x.lacks(0), -1);
        check.due("n of l l", x.lacks(1), 4);
        check.due("no such kind", x.lacks(2), -1000);
        check.due("no such kind below", x.lacks(-1), -1000);
        check.due("no such kind far", x.lacks(Integer.MIN_VALUE), -1000);
        x = Check.with("kind a;kind b;goal a/b;word p is a or b or a/(b/b);");
        check.due("a of the goal", x.lacks(0), 1);
        check.due("b of the goal", x.lacks(1), -1);
        Check.row(x, "p p");
        check.due("of each kind its own choice: a", x.lacks(0), -1);
        check.due("of each kind its own choice: b", x.lacks(1), -3);
        x = Check.with("kind a;kind b;kind c;kind d;kind e;word p is ((e/e)/e)/e;");
        Check.row(x, "p p p p p p p p");
        check.due("the most that can lack", x.lacks(4), 16);
        check.due("of the goal's kind", x.lacks(0), 1);
    }

    private static void changes() {
        WordKeys x = Check.with(SENTENCES);
        Check.row(x, "r j");
        x.image(0);
        check.due("mended", x.mended(1), 21);
        check.due("lost", x.lost(), -1);
        check.due("could", x.could(0, 1, 1), 3);
        check.due("added", x.added(0), -1);
        Check.row(x, "j r");
        check.due("mended then", x.mended(1), 12);
        check.due("lost then", x.lost(), 0);
        check.due("could then", x.could(0, 1, 1), 1);
        check.due("added then", x.added(0), 0);
        x.back(0);
        check.due("mended back", x.mended(1), 21);
        check.due("lost back", x.lost(), -1);
        check.due("could back", x.could(0, 1, 1), 3);
        check.due("added back", x.added(0), -1);
        Check.lexicon(x, "kind s;kind n;word j is s;word r is s/s;");
        Check.row(x, "r j");
        check.due("mended with another lexicon", x.mended(1), 12);
        check.due("lost with another lexicon", x.lost(), 0);
        check.due("could with another lexicon", x.could(0, 1, 1), 2);
        check.due("added with another lexicon", x.added(0), 0);
    }
}
