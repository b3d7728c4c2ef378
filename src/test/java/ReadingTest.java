/** Promises 10 to 14 and 23: READINGS, tags chosen, strings, MEANINGS, what is OVER a word. */
public final class ReadingTest {
    private static final Check check = new Check();
    private static final String SENTENCES = "kind s;kind n;word j is n;word m is n;word r is n\\s;word l is (n\\s)/n;"
        + "word e is (s/(n\\s))/n;word t is s/(s/n);";

    public static void main(String[] args) {
        plainSentence();
        noSentences();
        orderOfStrings();
        orderOfChoices();
        holes();
        holesWithArguments();
        slashedGoals();
        nothingMeantByHolesAlone();
        manyEnds();
        spent();
        wrongInputs();
        changes();
        check.finish("ReadingTest");
    }

    private static void reading(WordKeys x, int reading, int[] chosen, int[] ties, int[] meaning) {
        check.dueRow("chosen " + reading, i -> x.chosen(reading, i), chosen);
        check.dueRow("tied " + reading, i -> x.tied(reading, i), ties);
        check.dueRow("meaning " + reading, i -> x.meaning(reading, i), meaning);
    }

    private static int[] row(int... numbers) {
        return numbers;
    }

    private static void plainSentence() {
        WordKeys x = Check.with(SENTENCES);
        Check.row(x, "j l m");
        check.due("readings", x.readings(), 1);
        // the ARGUMENT of the outermost slash comes first
        reading(x, 0, row(0, 0, 0), row(1, 0, 5, 4, 3, 2), row(1, 2, 0));
        check.dueRow("over", i -> x.over(0, i), 1, -1, 1);
        check.due("same", x.same(0), 0);
        Check.row(x, "j r");
        check.due("readings of j r", x.readings(), 1);
        reading(x, 0, row(0, 0), row(1, 0, 3, 2), row(1, 0));
    }

    private static void noSentences() {
        WordKeys x = Check.with(SENTENCES);
        check.due("an empty row", x.readings(), 0);
        Check.row(x, "r j");
        check.due("the wrong order", x.readings(), 0);
        Check.row(x, "j");
        check.due("the wrong kind", x.readings(), 0);
        Check.row(x, "j j r");
        check.due("one too many", x.readings(), 0);
        x = Check.with("kind a;goal a/a;word w is a;");
        check.due("an empty row with an even goal", x.readings(), 0);
        // rings: each wants what the other gives, and nothing is left for the goal but what does not come to them
        x = Check.with("kind a;kind b;word p is a;word q is b/b;");
        Check.row(x, "q p");
        check.due("a ring", x.readings(), 0);
        Check.row(x, "p q");
        check.due("a ring behind", x.readings(), 0);
    }

    private static void orderOfStrings() {
        WordKeys x = Check.with("kind a;word l is a/a;word x is a;word r is a\\a;");
        Check.row(x, "l x r");
        check.due("readings", x.readings(), 2);
        reading(x, 0, row(0, 0, 0), row(3, 2, 1, 0, 5, 4), row(2, 0, 1));
        reading(x, 1, row(0, 0, 0), row(5, 4, 3, 2, 1, 0), row(0, 2, 1));
        check.dueRow("over 0", i -> x.over(0, i), 2, 0, -1);
        check.due("over 1 0", x.over(1, 0), -1);
        check.due("over 1 1", x.over(1, 1), 2);
        check.due("over 1 2", x.over(1, 2), 0);
        Check.row(x, "l l x r r");
        check.due("ways to take turns", x.readings(), 6);
        check.due("the first one's first string", x.tied(0, 0), 5);
        check.due("the last one's first string", x.tied(5, 0), 9);
        check.due("none is like another", x.same(5), 5);
    }

    private static void orderOfChoices() {
        WordKeys x = Check.with("kind a;word p is a or a or a/a;word q is a/a or a;");
        Check.row(x, "p q");
        check.due("readings", x.readings(), 1);
        check.due("chosen(0,0)", x.chosen(0, 0), 2);
        check.due("chosen(0,1)", x.chosen(0, 1), 1);
        Check.row(x, "p p");
        check.due("readings of p p", x.readings(), 2);
        reading(x, 0, row(2, 0), row(3, 2, 1, 0), row(0, 1));
        reading(x, 1, row(2, 1), row(3, 2, 1, 0), row(0, 1));
        check.due("same(0)", x.same(0), 0);
        check.due("same(1)", x.same(1), 0);
        x = Check.with("kind a;word f is a or a/a;word g is a or a\\a;");
        Check.row(x, "f g");
        check.due("readings of f g", x.readings(), 2);
        reading(x, 0, row(0, 1), row(1, 0, 3, 2), row(1, 0));
        reading(x, 1, row(1, 0), row(3, 2, 1, 0), row(0, 1));
        check.due("same of unlike ones", x.same(1), 1);
    }

    private static void holes() {
        WordKeys x = Check.with(SENTENCES);
        WordKeys y = Check.with("kind s;kind n;word t is s/(s/n);word v is s/n;word j is n;word l is (n\\s)/n;");
        Check.row(y, "t v");
        check.due("readings of t v", y.readings(), 1);
        // what v wants means a HOLE of a thing wanted farther out, and that is enough
        reading(y, 0, row(0, 0), row(5, 4, 3, 2, 1, 0), row(0, 200, 1, 100));
        check.dueRow("over t v", i -> y.over(0, i), -1, 0);
        Check.row(y, "t j l");
        check.due("readings of t j l", y.readings(), 1);
        check.dueRow("meaning of t j l", i -> y.meaning(0, i), 0, 200, 2, 100, 1);
        check.due("over j", y.over(0, 1), 2);
        check.due("over l", y.over(0, 2), 0);
        Check.row(x, "j l t");
        check.due("a hole on the wrong side", x.readings(), 0);
    }

    private static void holesWithArguments() {
        // the HOLE of the goal wants a thing itself, which a word fills: that word is over none of the words
        WordKeys x = Check.with("kind a;kind b;goal a/(a/b);word w is b;");
        Check.row(x, "w");
        check.due("readings", x.readings(), 0);
        WordKeys y = Check.with("kind a;kind b;goal (a/b)\\a;word w is b;");
        Check.row(y, "w");
        check.due("readings of a lifted word", y.readings(), 1);
        // the ends of the goal: what it is, then its HOLE
        reading(y, 0, row(0), row(3, 2, 1, 0), row(200, 100, 0));
        toAndFro(y);
        check.due("over is a hole", y.over(0, 0), 100);
        WordKeys z = Check.with("kind a;kind b;goal a/(b\\a);word w is b;word v is (b\\a)/(b\\a);");
        Check.row(z, "w");
        check.dueRow("meaning of a word lifted to the left", i -> z.meaning(0, i), 200, 100, 0);
        check.due("over is a hole again", z.over(0, 0), 100);
        Check.row(z, "w v");
        check.due("readings of w v", z.readings(), 1);
        check.dueRow("meaning of w v", i -> z.meaning(0, i), 200, 1, 201, 100, 101, 0);
        check.due("over w", z.over(0, 0), 1);
        check.due("over v", z.over(0, 1), -1);
    }

    private static void toAndFro(WordKeys x) {
        for (int end = 0; x.tied(0, end) != WordKeys.NONE; end++) {
            check.due("tied to and fro " + end, x.tied(0, x.tied(0, end)), end);
        }
    }

    private static void slashedGoals() {
        WordKeys x = Check.with("kind a;kind b;goal (a/b)/b;word f is (a/b)/b;word g is a/b;");
        Check.row(x, "f");
        check.due("readings of f", x.readings(), 1);
        reading(x, 0, row(0), row(5, 4, 3, 2, 1, 0), row(200, 201, 0, 200 - 100, 201 - 100));
        Check.row(x, "g");
        check.due("readings of g", x.readings(), 0);
        WordKeys y = Check.with("kind a;kind b;goal b\\(a/b);word f is (b\\a)/b;");
        Check.row(y, "f");
        check.due("both sides", y.readings(), 1);
        check.dueRow("meaning of both sides", i -> y.meaning(0, i), 200, 201, 0, 101, 100);
    }

    private static void nothingMeantByHolesAlone() {
        WordKeys x = Check.with("kind s;kind n;word w is s/(n/n);word i is n/n;");
        Check.row(x, "w");
        check.due("what w wants is nothing but its hole", x.readings(), 0);
        check.due("though it comes out even", x.even(), 1);
        Check.row(x, "w i");
        check.due("with a word it is something", x.readings(), 1);
        check.dueRow("its meaning", i -> x.meaning(0, i), 0, 200, 1, 100);
        WordKeys z = Check.with("kind n;goal (n/n)/(n/n);word i is n/n;");
        check.due("two holes of the goal are nothing", z.readings(), 0);
        Check.row(z, "i");
        check.due("two holes and a word", z.readings(), 1);
        check.dueRow("their meaning", i -> z.meaning(0, i), 200, 201, 0, 100, 101);
        WordKeys y = Check.with("kind a;goal a/a;word f is a/a;");
        Check.row(y, "f");
        check.due("the goal wants a word", y.readings(), 1);
        check.dueRow("the goal's meaning", i -> y.meaning(0, i), 200, 0, 100);
    }

    private static void manyEnds() {
        WordKeys x = Check.with("kind a;word m is (a/a)/(a/a);word y is a/a;word x is a;");
        Check.row(x, "m m m m y x");
        check.due("20 ends", x.readings() > 0, true);
        check.due("the 20th end", x.tied(0, 19) >= 0, true);
        check.due("no 21st end", x.tied(0, 20), -1);
        Check.row(x, "m m m m m y x");
        check.due("24 ends", x.readings(), 0);
        check.due("24 ends come out even", x.even(), 1);
        x = Check.with("kind a;word m is (a/a)/(a/a) or a/a;word y is a/a;word x is a;");
        Check.row(x, "m m m m m y x");
        check.due("the choices with fewer ends remain", x.readings() > 0, true);
        check.due("the first one has a shorter tag", x.chosen(0, 0) + x.chosen(0, 1) + x.chosen(0, 2)
            + x.chosen(0, 3) + x.chosen(0, 4) > 0, true);
    }

    private static void spent() {
        WordKeys x = Check.with("kind a;word wa is a or a/a or a/a;word wb is (a/a)/a or a/(a/a) or a/a;");
        Check.row(x, "wa wb wb wb wb wa wa");
        check.due("300 are not spent", x.readings(), 300);
        check.due("the last one is there", x.chosen(299, 0) >= 0, true);
        check.due("none behind", x.chosen(300, 0), -1);
        x = Check.with("kind a;word wa is a/a or a/(a/a) or (a/a)/a;word wb is a or a/a or (a\\a)/a;");
        Check.row(x, "wa wb wa wb wb wa wb wb");
        check.due("301 are spent", x.readings(), -2);
        check.due("chosen", x.chosen(0, 0), -2);
        check.due("tied", x.tied(0, 0), -2);
        check.due("meaning", x.meaning(0, 0), -2);
        check.due("same", x.same(0), -2);
        check.due("over", x.over(0, 0), -2);
        check.due("a spent row is a sentence", x.lost(), 0);
        check.due("nothing to add", x.added(0), 0);
        Check.row(x, "wb");
        check.due("the next row is not spent", x.readings(), 1);
        check.due("its meaning", x.meaning(0, 0), 0);
    }

    private static void wrongInputs() {
        WordKeys x = Check.with(SENTENCES);
        Check.row(x, "j l m");
        int[] wrong = {-1, 1, 300, Integer.MIN_VALUE, Integer.MAX_VALUE};
        for (int reading : wrong) {
            check.due("chosen " + reading, x.chosen(reading, 0), -1);
            check.due("tied " + reading, x.tied(reading, 0), -1);
            check.due("meaning " + reading, x.meaning(reading, 0), -1);
            check.due("same " + reading, x.same(reading), -1);
            check.due("over " + reading, x.over(reading, 0), -1);
        }
        int[] outside = {-1, 3, 8, 24, Integer.MIN_VALUE, Integer.MAX_VALUE};
        for (int place : outside) {
            check.due("chosen at " + place, x.chosen(0, place), -1);
            check.due("over at " + place, x.over(0, place), -1);
            check.due("meaning at " + place, x.meaning(0, place), -1);
            check.due("tied at " + place, x.tied(0, place == 3 ? 6 : place), -1);
        }
    }

    private static void changes() {
        WordKeys x = Check.with("kind a;word p is a;word q is a/a;");
        Check.row(x, "q p");
        check.due("readings", x.readings(), 1);
        Check.row(x, "p q");
        check.due("of another row", x.readings(), 0);
        Check.row(x, "z");
        check.due("of a row that was none", x.readings(), 0);
        Check.row(x, "q q p");
        x.image(0);
        Check.row(x, "q");
        check.due("of q", x.readings(), 0);
        x.back(0);
        check.due("of the row that came back", x.readings(), 1);
        check.dueRow("its meaning", i -> x.meaning(0, i), 0, 1, 2);
        Check.lexicon(x, "kind a;word p is a;");
        check.due("of no row", x.readings(), 0);
        check.due("nothing chosen", x.chosen(0, 0), -1);
    }
}
