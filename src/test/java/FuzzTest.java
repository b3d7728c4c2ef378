import java.util.Random;

/** Any calls in any state: none throws, the same calls give the same answers, and faults stand where they can. */
public final class FuzzTest {
    private static final Check check = new Check();
    private static final int[] EDGES = {-1000, -3, -2, -1, 0, 1, 2, 3, 4, 5, 6, 7, 8, 12, 20, 36, 300, 1600,
        Integer.MIN_VALUE, Integer.MAX_VALUE};
    private static final String[] LEXICONS = {
        "kind s;kind n;word j is n;word r is n\\s;word l is (n\\s)/n;word e is (s/(n\\s))/n or s/(n\\s);",
        "kind a;goal a/a;word p is a or a/a or a\\a;word q is (a\\a)/a or a;",
        "kind a;kind b;word p is a;word q is a\\b or b;word r is b/a;goal b;",
        "kind a;kind b;kind c;kind d;kind e;word p is ((e/e)/e)/e;word q is (a/b)/(c/d) or e;goal e;"};
    private static final String[] ROWS = {"j r", "j l j", "p q", "p p q p", "e j r", "q p q p q p q p", "r", "p", "p q r"};

    public static void main(String[] args) {
        int rounds = args.length > 1 ? Integer.parseInt(args[1]) : 150;
        for (int round = 0; round < rounds; round++) {
            long one = run(round);
            long other = run(round);
            check.due("round " + round, one, other);
        }
        check.finish("FuzzTest");
    }

    private static long run(int seed) {
        Random dice = new Random(seed);
        WordKeys x = new WordKeys();
        long all = 0;
        for (int call = 0; call < 512; call++) {
            all = all * 31 + call(x, dice);
        }
        return all;
    }

    private static int edge(Random dice) {
        return dice.nextInt(3) == 0 ? EDGES[dice.nextInt(EDGES.length)] : dice.nextInt(4);
    }

    private static String spoilt(Random dice, String text) {
        StringBuilder spoilt = new StringBuilder(text);
        int times = dice.nextInt(3);
        for (int i = 0; i < times && spoilt.length() > 0; i++) {
            int place = dice.nextInt(spoilt.length());
            if (dice.nextBoolean()) {
                spoilt.deleteCharAt(place);
            } else {
                spoilt.insert(place, dice.nextInt(9) == 0 ? (char) dice.nextInt(256) : ";()/\\ abn".charAt(dice.nextInt(9)));
            }
        }
        return spoilt.toString();
    }

    private static int call(WordKeys x, Random dice) {
        int a = edge(dice);
        int b = edge(dice);
        int c = edge(dice);
        switch (dice.nextInt(31)) {
            case 0: return dice.nextInt(20) == 0 ? x.feed(a, b, c, a, b) : x.end(a);
            case 1: case 2: return text(x, spoilt(dice, LEXICONS[dice.nextInt(LEXICONS.length)]), true);
            case 3: case 4: case 5: return text(x, spoilt(dice, ROWS[dice.nextInt(ROWS.length)]), false);
            case 6: return x.fault(a);
            case 7: return x.tags(a);
            case 8: return x.number(a, b);
            case 9: return x.at(a);
            case 10: return x.readings();
            case 11: return x.chosen(a, b);
            case 12: return x.tied(a, b);
            case 13: return x.meaning(a, b);
            case 14: return x.same(a);
            case 15: return x.even();
            case 16: return x.lost();
            case 17: return x.mended(a);
            case 18: return x.could(a, b, c);
            case 19: return x.span(a, b, c);
            case 20: return x.added(a);
            case 21: return x.inPlace(a);
            case 22: return x.lacks(a);
            case 23: return x.over(a, b);
            case 24: return x.example(dice.nextBoolean());
            case 25: return x.untell(a) ? 1 : 0;
            case 26: return x.later(a);
            case 27: return x.judge(a);
            case 28: return x.learnt(a, b);
            case 29: return dice.nextBoolean() ? x.image(a) : x.back(a);
            default: return x.about(a);
        }
    }

    private static int text(WordKeys x, String text, boolean isLexicon) {
        x.end(0);
        Check.type(x, text);
        int words = x.about(1);
        int places = x.about(2);
        int answer = isLexicon ? x.lexicon() : x.row();
        boolean isFault = answer == WordKeys.NONE;
        check.due("a fault or none: " + text, x.fault(0) != 0, isFault);
        check.due("its place: " + text, x.fault(1) >= 0 && x.fault(1) <= text.length(), isFault);
        check.due("an empty tape", x.about(5), 0);
        check.due("words", x.about(1), isFault || !isLexicon ? words : answer);
        check.due("places", x.about(2), isFault ? places : isLexicon ? 0 : answer);
        return answer;
    }
}
