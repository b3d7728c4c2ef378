/** Promises 24 to 30: EXAMPLES in two times, judging, LEARNT, images. */
public final class ExampleTest {
    private static final Check check = new Check();
    private static final String WORDS = "kind s;kind n;word j is n;word r is n\\s;";

    public static void main(String[] args) {
        example();
        untell();
        later();
        judge();
        learnt();
        learntEdges();
        learntInTime();
        image();
        back();
        check.finish("ExampleTest");
    }

    private static int tell(WordKeys x, String row, boolean right) {
        Check.row(x, row);
        return x.example(right);
    }

    private static void example() {
        WordKeys x = Check.with(WORDS);
        check.due("of an empty row", x.example(true), -1);
        check.due("of seven words", tell(x, "j j j j j j j", true), -1);
        check.due("of eight words", tell(x, "j j j j j j j j", false), -1);
        check.due("none so far", x.about(3), 0);
        check.due("of six words", tell(x, "j j j j j j", false), 0);
        for (int i = 1; i < 12; i++) {
            check.due("example " + i, tell(x, i % 2 == 0 ? "j" : "j r", i % 3 == 0), i);
        }
        check.due("a 13th", x.example(true), -1);
        check.due("twelve", x.about(3), 12);
        x.untell(3);
        check.due("a 13th after one was untold", x.example(true), -1);
        check.due("the row stays", x.about(2), 2);
        check.due("judged", x.judge(0), 1);
    }

    private static void untell() {
        WordKeys x = Check.with(WORDS);
        check.due("of none", x.untell(0), false);
        tell(x, "j", true);
        tell(x, "r", true);
        check.due("below", x.untell(-1), false);
        check.due("above", x.untell(2), false);
        check.due("far", x.untell(Integer.MAX_VALUE), false);
        check.due("judge", x.judge(0), 0);
        check.due("the first", x.untell(0), true);
        check.due("once more", x.untell(0), false);
        check.due("judge then", x.judge(0), 1);
        x.later(5);
        check.due("the second", x.untell(1), true);
        check.due("the first again", x.untell(0), false);
        check.due("examples", x.about(3), 2);
        check.due("judge at 5", x.judge(5), -1);
        check.due("judge at 4", x.judge(4), 1);
    }

    private static void later() {
        WordKeys x = new WordKeys();
        check.due("later(0)", x.later(0), 0);
        check.due("later(1000)", x.later(1000), 1000);
        check.due("later(1001)", x.later(1001), -1);
        check.due("later(-1)", x.later(-1), -1);
        check.due("later(MAX)", x.later(Integer.MAX_VALUE), -1);
        check.due("later(MIN)", x.later(Integer.MIN_VALUE), -1);
        check.due("time", x.about(4), 1000);
        for (int i = 2; i <= 99; i++) {
            x.later(1000);
        }
        check.due("later(999)", x.later(999), 99999);
        check.due("later(2)", x.later(2), -1);
        check.due("later(1)", x.later(1), 100000);
        check.due("later(1) again", x.later(1), -1);
        check.due("later(0) at the end", x.later(0), 100000);
    }

    private static void judge() {
        WordKeys x = Check.with(WORDS);
        check.due("without examples", x.judge(0), -1);
        x.later(10);
        tell(x, "j r", true);
        tell(x, "r j", false);
        x.later(1);
        tell(x, "r j", true);
        tell(x, "j r", false);
        check.due("before all", x.judge(9), -1);
        check.due("right ones", x.judge(10), -1);
        check.due("a wrong one", x.judge(11), 2);
        check.due("later than now", x.judge(Integer.MAX_VALUE), 2);
        check.due("long ago", x.judge(Integer.MIN_VALUE), -1);
        x.later(1);
        x.untell(2);
        check.due("at 12", x.judge(12), 3);
        check.due("at 11 still", x.judge(11), 2);
        x.untell(3);
        check.due("at 12 both untold", x.judge(12), -1);
        x = Check.with("kind a;word wa is a/a or a/(a/a) or (a/a)/a;word wb is a or a/a or (a\\a)/a;");
        tell(x, "wa wb wb wb wa wb", true);
        check.due("with many readings", x.judge(0), -1);
    }

    private static void learntRow(WordKeys x, int k, int slashes, int... numbers) {
        check.due("slashes at " + k, x.learnt(-1, k), slashes);
        for (int word = 0; word < numbers.length; word++) {
            check.due("number of " + word + " at " + k, x.learnt(word, k), numbers[word]);
        }
        check.due("no such word", x.learnt(numbers.length, k), -3);
    }

    private static void learnt() {
        WordKeys x = Check.with("kind s;kind n;word j is s;word r is s;");
        learntRow(x, 0, 0, 0, 0);
        tell(x, "j r", true);
        // j is s/s and r is s has the least row of NUMBERS of those with one slash, but j is s comes ahead
        learntRow(x, 0, 1, 0, 6);
        tell(x, "j", false);
        learntRow(x, 0, 1, 1, 8);
        tell(x, "r j", true);
        learntRow(x, 0, -1, -1, -1);
    }

    private static void learntEdges() {
        WordKeys x = Check.with("kind a;kind b;word p is a;word q is a;word r is a;word s is a;");
        tell(x, "p q r s", true);
        tell(x, "q r s", false);
        tell(x, "r s", false);
        tell(x, "s", false);
        check.due("four words", x.learnt(-1, 0), 3);
        check.due("the lexicon's tags do not count", x.judge(0), 0);
        check.due("no such word below", x.learnt(-2, 0), -3);
        check.due("no such word", x.learnt(4, 0), -3);
        check.due("no such word far", x.learnt(Integer.MAX_VALUE, 0), -3);
        // tags that were tried for a place are not those that are learnt
        x.could(0, 2, 0);
        check.due("the first word's number", x.learnt(0, 0), 0);
        x = Check.with("kind a;goal a/a;word p is a;word q is a;word r is a;word s is a;");
        tell(x, "p", true);
        tell(x, "q", true);
        tell(x, "r", true);
        tell(x, "s", true);
        x.could(0, 1, 0);
        learntRow(x, 0, 4, 1, 1, 1, 1);
        tell(x, "p q", false);
        learntRow(x, 0, -1, -1, -1, -1, -1);
        x = Check.with("kind a;word p is a;word q is a;word r is a;word s is a;word t is a;");
        check.due("five words", x.learnt(-1, 0), -2);
        check.due("five words, the last", x.learnt(4, 0), -2);
        x = Check.with("kind a;kind b;kind c;word p is a;");
        check.due("three kinds", x.learnt(0, 0), -2);
        x = Check.with("kind a;kind b;");
        check.due("no words", x.learnt(-1, 0), 0);
        check.due("no word 0", x.learnt(0, 0), -3);
        x = Check.with("kind a;goal a/a;word p is a;");
        tell(x, "p", true);
        learntRow(x, 0, 1, 1);
        tell(x, "p p", false);
        learntRow(x, 0, -1, -1);
    }

    private static void learntInTime() {
        WordKeys x = Check.with("kind s;kind n;word j is s;word r is s;");
        x.later(3);
        tell(x, "j r", true);
        x.later(3);
        tell(x, "j", false);
        x.later(3);
        x.untell(0);
        learntRow(x, 2, 0, 0, 0);
        learntRow(x, 3, 1, 0, 6);
        learntRow(x, 5, 1, 0, 6);
        learntRow(x, 6, 1, 1, 8);
        learntRow(x, 8, 1, 1, 8);
        learntRow(x, 9, 0, 1, 0);
        learntRow(x, 3, 1, 0, 6);
        learntRow(x, Integer.MIN_VALUE, 0, 0, 0);
        learntRow(x, Integer.MAX_VALUE, 0, 1, 0);
        Check.lexicon(x, "kind s;kind n;goal n;word j is s;word r is s;");
        learntRow(x, 9, 0, 0, 0);
        tell(x, "j", true);
        learntRow(x, 9, 0, 1, 0);
    }

    private static void image() {
        WordKeys x = Check.with(WORDS);
        check.due("image(-1)", x.image(-1), -1);
        check.due("image(3)", x.image(3), -1);
        check.due("image(MAX)", x.image(Integer.MAX_VALUE), -1);
        check.due("image(0)", x.image(0), 0);
        tell(x, "j", true);
        check.due("image(1)", x.image(1), 1);
        tell(x, "r", true);
        check.due("image(2)", x.image(2), 2);
        check.due("back(0)", x.back(0), 0);
        check.due("an empty row", x.about(2), 0);
        check.due("back(2)", x.back(2), 2);
        check.due("its row", x.at(0), 1);
        check.due("back(1)", x.back(1), 1);
        check.due("the row of box 1", x.at(0), 0);
        check.due("image(2) again", x.image(2), 1);
        check.due("back(2) again", x.back(2), 1);
    }

    private static void back() {
        WordKeys x = Check.with(WORDS);
        check.due("nothing kept", x.back(0), -1);
        check.due("back(-1)", x.back(-1), -1);
        check.due("back(3)", x.back(3), -1);
        x.later(4);
        tell(x, "j", true);
        tell(x, "j r", true);
        x.image(0);
        x.later(4);
        x.untell(0);
        tell(x, "r", true);
        check.due("judge at 8", x.judge(8), 2);
        check.due("learnt at 8", x.learnt(0, 8), 2);
        Check.row(x, "r r r");
        Check.type(x, "j j");
        check.due("back", x.back(0), 2);
        check.due("the time goes on", x.about(4), 8);
        check.due("the tape stays", x.about(5), 3);
        check.due("words of the row", x.about(2), 2);
        check.due("its readings", x.readings(), 1);
        check.due("not untold any more", x.judge(8), 0);
        check.due("learnt anew", x.learnt(1, 8), 6);
        check.due("untell again", x.untell(0), true);
        check.due("at 8 untold", x.judge(8), -1);
        check.due("at 7 not", x.judge(7), 0);
        check.due("the box has it still", x.back(0), 2);
        check.due("and as it was", x.judge(8), 0);
        check.due("its number", x.example(true), 2);
        x.later(1);
        check.due("told at 8", x.judge(8), 0);
        check.due("the third is right", x.untell(0) && x.judge(9) == -1, true);
    }
}
