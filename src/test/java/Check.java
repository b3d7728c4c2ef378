/** Counts the answers of one test, prints those that are not as due, and ends the test. */
final class Check {
    private int passed;
    private int failed;

    void due(String call, long got, long want) {
        if (got == want) {
            passed++;
        } else {
            failed++;
            System.out.println(call + " answered " + got + ", due is " + want);
        }
    }

    void due(String call, boolean got, boolean want) {
        due(call, got ? 1 : 0, want ? 1 : 0);
    }

    /** The answers of one method at 0, 1, 2, .. up to the last one that is not NONE, and the NONE behind it. */
    void dueRow(String call, java.util.function.IntUnaryOperator answer, int... want) {
        for (int i = 0; i < want.length; i++) {
            due(call + " [" + i + "]", answer.applyAsInt(i), want[i]);
        }
        due(call + " [" + want.length + "]", answer.applyAsInt(want.length), WordKeys.NONE);
    }

    void finish(String name) {
        System.out.println(name + ": " + passed + " answers as due, " + failed + " not");
        if (failed != 0) {
            System.exit(1);
        }
    }

    /** Puts a text on the TAPE; what feed and end answered is looked at where it matters. */
    static void type(WordKeys x, String text) {
        int before = x.about(5);
        for (int i = 0; i < text.length(); i += 20) {
            x.feed(four(text, i), four(text, i + 4), four(text, i + 8), four(text, i + 12), four(text, i + 16));
        }
        x.end(before + text.length());
    }

    static int four(String text, int from) {
        int number = 0;
        for (int i = from; i < from + 4; i++) {
            number = number << 8 | (i < text.length() ? text.charAt(i) & 255 : 32);
        }
        return number;
    }

    static int lexicon(WordKeys x, String text) {
        type(x, text);
        return x.lexicon();
    }

    static int row(WordKeys x, String text) {
        type(x, text);
        return x.row();
    }

    /** A new object with this LEXICON. */
    static WordKeys with(String text) {
        WordKeys x = new WordKeys();
        if (lexicon(x, text) < 0) {
            System.out.println("no lexicon: " + text + " (fault " + x.fault(0) + " at " + x.fault(1) + ")");
        }
        return x;
    }
}
