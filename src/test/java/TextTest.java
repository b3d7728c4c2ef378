/** Promises 1 to 9 and 31: the TAPE, the LEXICON, the ROW, FAULTS, NUMBERS. */
public final class TextTest {
    private static final Check check = new Check();
    private static final String FIVE = "kind a;kind b;kind c;kind d;kind e;";

    public static void main(String[] args) {
        newObject();
        feed();
        end();
        lexicon();
        lexiconKeepsAndEmpties();
        shorterLexicons();
        lexiconFaults();
        limitsOfTags();
        row();
        rowFaults();
        fault();
        tags();
        number();
        at();
        about();
        check.finish("TextTest");
    }

    private static void newObject() {
        WordKeys x = new WordKeys();
        int[] about = {0, 0, 0, 0, 0, 0, 0};
        check.dueRow("new: about", x::about, about);
        check.due("new: NONE", WordKeys.NONE, -1);
        check.due("new: fault(0)", x.fault(0), 0);
        check.due("new: fault(1)", x.fault(1), -1);
        check.due("new: tags(0)", x.tags(0), -1);
        check.due("new: number(0,0)", x.number(0, 0), -1);
        check.due("new: at(0)", x.at(0), -1);
        check.due("new: readings", x.readings(), 0);
        check.due("new: chosen", x.chosen(0, 0), -1);
        check.due("new: tied", x.tied(0, 0), -1);
        check.due("new: meaning", x.meaning(0, 0), -1);
        check.due("new: same", x.same(0), -1);
        check.due("new: even", x.even(), 0);
        check.due("new: lost", x.lost(), -1);
        check.due("new: mended", x.mended(0), -1);
        check.due("new: could", x.could(0, 0, 0), -1);
        check.due("new: span", x.span(0, 0, 0), -1);
        check.due("new: added", x.added(0), -1);
        check.due("new: inPlace", x.inPlace(0), -1);
        check.due("new: lacks", x.lacks(0), -1000);
        check.due("new: over", x.over(0, 0), -1);
        check.due("new: example", x.example(true), -1);
        check.due("new: untell", x.untell(0), false);
        check.due("new: judge", x.judge(0), -1);
        check.due("new: learnt", x.learnt(-1, 0), 0);
        check.due("new: back", x.back(0), -1);
    }

    private static void feed() {
        WordKeys x = new WordKeys();
        for (int i = 1; i <= 80; i++) {
            check.due("feed " + i, x.feed(0x20202020, 0, 0, 0, 0), 20 * i);
        }
        check.due("feed 81", x.feed(0, 0, 0, 0, 0), -1);
        check.due("about(5) after feed 81", x.about(5), 1600);
        x.end(1581);
        check.due("feed at 1581", x.feed(0, 0, 0, 0, 0), -1);
        check.due("about(5) at 1581", x.about(5), 1581);
        x.end(1580);
        check.due("feed at 1580", x.feed(0, 0, 0, 0, 0), 1600);
        // the highest byte of each number comes first
        x = new WordKeys();
        x.feed(0x6b696e64, 0x20616263, 0x6465663b, 0x676f616c, 0x20616263);
        x.end(12 + 4 + 4);
        Check.type(x, "def;");
        check.due("lexicon of bytes in order", x.lexicon(), 0);
        check.due("kinds of bytes in order", x.about(0), 1);
        // bytes from 128 on are bytes as well, and no TOKENS
        x.feed(0x206b80ff, 0, 0, 0, 0);
        x.end(3);
        check.due("lexicon with byte 128", x.lexicon(), -1);
        check.due("fault with byte 128", x.fault(0), 2);
        x.feed(0x2080ffff, 0, 0, 0, 0);
        check.due("lexicon of byte 128", x.lexicon(), -1);
        check.due("fault of byte 128", x.fault(0), 1);
        check.due("its place", x.fault(1), 1);
    }

    private static void end() {
        WordKeys x = new WordKeys();
        check.due("end(0) of an empty tape", x.end(0), 0);
        check.due("end(1) of an empty tape", x.end(1), -1);
        check.due("end(-1)", x.end(-1), -1);
        x.feed(0, 0, 0, 0, 0);
        check.due("end(21)", x.end(21), -1);
        check.due("end(MIN)", x.end(Integer.MIN_VALUE), -1);
        check.due("end(MAX)", x.end(Integer.MAX_VALUE), -1);
        check.due("about(5)", x.about(5), 20);
        check.due("end(20)", x.end(20), 20);
        check.due("end(7)", x.end(7), 7);
        check.due("about(5) after end(7)", x.about(5), 7);
        check.due("end(8) after end(7)", x.end(8), -1);
        check.due("feed after end(7)", x.feed(0, 0, 0, 0, 0), 27);
        check.due("end(0)", x.end(0), 0);
    }

    private static void lexicon() {
        WordKeys x = new WordKeys();
        check.due("lexicon of nothing", x.lexicon(), 0);
        check.due("lexicon of blanks", Check.lexicon(x, " \n  \n"), 0);
        check.due("lexicon", Check.lexicon(x, "kind s;kind n;word j is n;word r is n\\s or s/n;goal s;"), 2);
        check.due("kinds", x.about(0), 2);
        check.due("tape is empty", x.about(5), 0);
        check.due("parted by blanks or not", Check.lexicon(x, "\nkind\nab ;goal(ab/ab) ; word  cd is((ab))or ab;"), 1);
        check.due("goal's ends", x.about(6), 2);
        check.due("tags", x.tags(0), 2);
        check.due("the most lines", Check.lexicon(x, FIVE + words(12) + "goal e;"), 12);
        check.due("lines in any order", Check.lexicon(x, "kind a;word b is a;kind c;goal c;word d is c;kind e;"), 2);
        check.due("names of eight letters", Check.lexicon(x, "kind abcdefgh;word abcdefgi is abcdefgh;"), 1);
        check.due("a word may be called as a keyword begins", Check.lexicon(x, "kind kinds;word words is kinds;"), 1);
    }

    private static String words(int n) {
        StringBuilder text = new StringBuilder();
        for (int i = 0; i < n; i++) {
            text.append("word w").append((char) ('a' + i)).append(" is a;");
        }
        return text.toString();
    }

    private static void lexiconKeepsAndEmpties() {
        WordKeys x = Check.with("kind a;word w is a;");
        Check.row(x, "w");
        x.example(true);
        x.later(7);
        x.image(1);
        check.due("a fault", Check.lexicon(x, "kind a;kind"), -1);
        check.due("tape is empty after a fault", x.about(5), 0);
        check.due("words stay", x.about(1), 1);
        check.due("row stays", x.about(2), 1);
        check.due("examples stay", x.about(3), 1);
        check.due("readings stay", x.readings(), 1);
        check.due("box stays", x.back(1), 1);
        check.due("a new one", Check.lexicon(x, "kind b;kind c;word v is c/c;"), 1);
        check.due("row is empty", x.about(2), 0);
        check.due("no examples", x.about(3), 0);
        check.due("boxes are empty", x.back(1), -1);
        check.due("time stays", x.about(4), 7);
        check.due("readings of the empty row", x.readings(), 0);
        check.due("lost of the empty row", x.lost(), -1);
        check.due("the old word is gone", Check.row(x, "w"), -1);
        check.due("no lexicon's fault", x.fault(0), 5);
        check.due("nothing to untell", x.untell(0), false);
        check.due("nothing to judge", x.judge(7), -1);
        check.due("nothing to learn from", x.learnt(-1, 7), 0);
        Check.row(x, "v");
        x.example(true);
        check.due("an example judged wrong", x.judge(7), 0);
        Check.lexicon(x, "kind b;kind c;word v is c/c;");
        check.due("the example is gone", x.judge(7), -1);
        check.due("and not learnt from", x.learnt(0, 7), 0);
        check.due("nor to be untold", x.untell(0), false);
    }

    /** What an older lexicon told must not be known to a shorter one. */
    private static void shorterLexicons() {
        WordKeys x = Check.with("kind a;kind b;word p is a;word q is a or b;goal b;");
        Check.lexicon(x, "kind a;word p is a;");
        check.due("without b", Check.lexicon(x, "kind a;word p is a;"), 1);
        check.due("without q", Check.row(x, "q"), -1);
        check.due("q is no word", x.fault(0), 5);
        check.due("the goal is KIND 0 again", Check.row(x, "p") + 10 * x.readings(), 11);
        check.due("b is no kind", Check.lexicon(x, "kind a;word p is b;"), -1);
        check.due("b is no kind: fault", x.fault(0), 5);
        check.due("names are free again", Check.lexicon(x, "kind q;word b is q;word a is q;"), 2);
        check.due("tags of b", x.tags(0), 1);
    }

    private static void faultOf(String text, int fault, int place) {
        WordKeys x = new WordKeys();
        check.due("lexicon: " + text, Check.lexicon(x, text), -1);
        check.due("fault(0): " + text, x.fault(0), fault);
        check.due("fault(1): " + text, x.fault(1), place);
    }

    private static void lexiconFaults() {
        faultOf("kind A;", 1, 5);
        faultOf("kind a,", 1, 6);
        faultOf("kind a;\t", 1, 7);
        faultOf("kind a1;", 1, 6);
        faultOf("?", 1, 0);
        faultOf("kind a;goal .", 1, 12);
        faultOf("kind a;word b is a or -", 1, 22);
        faultOf("kind a;word b %", 1, 14);
        faultOf("kind a", 2, 6);
        faultOf("kind", 2, 4);
        faultOf("kind  ", 2, 6);
        faultOf("kind ;", 2, 5);
        faultOf("kind kind;", 2, 5);
        faultOf("kind is;", 2, 5);
        faultOf("kind or;", 2, 5);
        faultOf("kind goal;", 2, 5);
        faultOf("kind word;", 2, 5);
        faultOf("kinds a;", 2, 0);
        faultOf(";", 2, 0);
        faultOf("kind a;;", 2, 7);
        faultOf("kind a b;", 2, 7);
        faultOf("kind abcdefghi;", 2, 13);
        faultOf("kind a;is a;", 2, 7);
        faultOf("kind a;kind a;", 3, 12);
        faultOf("kind a;word a is a;", 3, 12);
        faultOf("kind a;word b is a;kind b;", 3, 24);
        faultOf("kind a;word b is a;word b is a;", 3, 24);
        faultOf("goal a;kind a;", 5, 5);
        faultOf("kind a;goal b;", 5, 12);
        faultOf("kind a;word b is b;", 5, 17);
        faultOf("kind a;word b is a;word c is b;", 5, 29);
        faultOf("kind a;word b is a/c;kind c;", 5, 19);
        faultOf("kind a;goal a;goal a;", 2, 14);
        faultOf("kind a;goal ;", 2, 12);
        faultOf("kind a;goal is;", 2, 12);
        faultOf("kind a;goal a", 2, 13);
        faultOf("kind a;goal a or a;", 2, 14);
        faultOf("kind a;goal a/a/a;", 2, 15);
        faultOf("kind a;goal (a/a)/a\\a;", 2, 19);
        faultOf("kind a;goal (a;", 2, 14);
        faultOf("kind a;goal a);", 2, 13);
        faultOf("kind a;goal ();", 2, 13);
        faultOf("kind a;goal a/;", 2, 14);
        faultOf("kind a;goal /a;", 2, 12);
        faultOf("kind a;goal a a;", 2, 14);
        faultOf("kind a;word b a;", 2, 14);
        faultOf("kind a;word b is;", 2, 16);
        faultOf("kind a;word b is a or;", 2, 21);
        faultOf("kind a;word b is a a;", 2, 19);
        faultOf("kind a;word is is a;", 2, 12);
        faultOf(FIVE + "kind f;", 2, 35);
        faultOf(FIVE + "kind %", 2, 35);
        faultOf("kind a;" + words(12) + "word x is a;", 2, 7 + 12 * 13);
        faultOf("kind a;kind b;word x is y and ?", 5, 24);
    }

    private static void limitsOfTags() {
        check.due("three tags", Check.lexicon(new WordKeys(), "kind a;word b is a or a or a;"), 1);
        faultOf("kind a;word b is a or a or a or a;", 2, 29);
        faultOf("kind a;word b is a or a or a or z;", 2, 29);
        check.due("four kinds of a tag", Check.lexicon(new WordKeys(), "kind a;word b is ((a/a)/a)/a or (a/a)/(a/a);"), 1);
        faultOf("kind a;goal ((a/a)/(a/a))/a;", 2, 26);
        faultOf("kind a;goal ((a/a)/(a/a))/z;", 2, 26);
        faultOf("kind a;goal ((a/a)/(a/a))/(a/a);", 2, 27);
        faultOf("kind a;goal (((a/a)/a)/a)/a;", 2, 26);
        check.due("four brackets", Check.lexicon(new WordKeys(), "kind a;goal ((((a))));"), 0);
        check.due("four brackets behind", Check.lexicon(new WordKeys(), "kind a;goal a/((((a))));"), 0);
        faultOf("kind a;goal (((((a)))));", 2, 16);
        faultOf("kind a;goal a/(((((a)))));", 2, 18);
        faultOf("kind a;goal ((((a))))/(((((a)))));", 2, 26);
        WordKeys x = Check.with("kind a;goal ((((a))))/((((a))));");
        check.due("brackets add no ends", x.about(6), 2);
    }

    private static void row() {
        WordKeys x = Check.with("kind a;word b is a;word c is a;word d is a;");
        check.due("row of nothing", x.row(), 0);
        check.due("row of blanks", Check.row(x, " \n "), 0);
        check.due("row", Check.row(x, "b c\nd  b"), 4);
        check.due("tape is empty", x.about(5), 0);
        check.dueRow("at", x::at, 0, 1, 2, 0);
        check.due("eight words", Check.row(x, "b c d b c d b c"), 8);
        check.due("an empty row again", Check.row(x, ""), 0);
        check.due("its words", x.about(2), 0);
    }

    private static void rowFault(WordKeys x, String text, int fault, int place) {
        check.due("row: " + text, Check.row(x, text), -1);
        check.due("fault(0): " + text, x.fault(0), fault);
        check.due("fault(1): " + text, x.fault(1), place);
        check.due("row stays: " + text, x.at(0), 1);
        check.due("tape is empty: " + text, x.about(5), 0);
    }

    private static void rowFaults() {
        WordKeys x = Check.with("kind a;word b is a;word c is a;");
        Check.row(x, "c");
        rowFault(x, "b , c", 1, 2);
        rowFault(x, "B", 1, 0);
        rowFault(x, "b ; c", 2, 2);
        rowFault(x, "b (", 2, 2);
        rowFault(x, "b\\c", 2, 1);
        rowFault(x, "is", 2, 0);
        rowFault(x, "b kind", 2, 2);
        rowFault(x, "b or c", 2, 2);
        rowFault(x, "b word", 2, 2);
        rowFault(x, "b c b c b c b c b", 2, 16);
        rowFault(x, "b c b c b c b c z", 2, 16);
        rowFault(x, "b c b c b c b c %", 1, 16);
        rowFault(x, "b a", 5, 2);
        rowFault(x, "b bc", 5, 2);
        rowFault(x, "b z ,", 5, 2);
        rowFault(x, "b bbbbbbbbb", 5, 2);
        check.due("row of all signs", Check.row(new WordKeys(), "a"), -1);
    }

    private static void fault() {
        WordKeys x = new WordKeys();
        check.due("fault(2)", x.fault(2), -1);
        check.due("fault(-1)", x.fault(-1), -1);
        Check.lexicon(x, "kind a;kind a;");
        check.due("of the lexicon", x.fault(0), 3);
        Check.row(x, "b");
        check.due("of the row", x.fault(0), 5);
        check.due("its place", x.fault(1), 0);
        Check.row(x, "");
        check.due("none of a good row", x.fault(0), 0);
        check.due("no place of a good row", x.fault(1), -1);
        Check.row(x, "  b");
        Check.lexicon(x, "kind a;");
        check.due("none of a good lexicon", x.fault(0), 0);
        check.due("no place of a good lexicon", x.fault(1), -1);
        check.due("fault(MAX)", x.fault(Integer.MAX_VALUE), -1);
    }

    private static void tags() {
        WordKeys x = Check.with("kind a;word b is a;word c is a or a/a;word d is a or a or a;");
        check.dueRow("tags", x::tags, 1, 2, 3);
        check.due("tags(-1)", x.tags(-1), -1);
        check.due("tags(MIN)", x.tags(Integer.MIN_VALUE), -1);
        check.due("tags(MAX)", x.tags(Integer.MAX_VALUE), -1);
    }

    private static void numbered(String kinds, String tag, int number) {
        WordKeys x = Check.with(kinds + "word w is " + tag + ";");
        check.due("number of " + tag, x.number(0, 0), number);
    }

    private static void number() {
        String two = "kind a;kind b;";
        numbered(two, "a", 0);
        numbered(two, "b", 1);
        numbered(two, "a/a", 2);
        numbered(two, "a/b", 3);
        numbered(two, "b/a", 4);
        numbered(two, "b/b", 5);
        numbered(two, "a\\a", 6);
        numbered(two, "b\\b", 9);
        numbered(two, "a/(a/a)", 10);
        numbered(two, "a/(b\\b)", 17);
        numbered(two, "b/(a/a)", 18);
        numbered(two, "(a/a)/a", 26);
        numbered(two, "(a/a)/b", 27);
        numbered(two, "(b\\b)/b", 41);
        numbered(two, "a\\(a/a)", 42);
        numbered(two, "(b\\b)\\b", 73);
        numbered(two, "((b\\b))", 9);
        numbered(two, "(a/a)/(a/a)", -2);
        numbered(two, "((a/a)/a)/a", -2);
        numbered("kind a;", "(a\\a)\\a", 10);
        numbered(FIVE, "(e\\e)\\e", 1054);
        numbered(FIVE, "a/(a/a)", 55);
        WordKeys x = Check.with(two + "word w is a or b/a;");
        check.due("number(0,1)", x.number(0, 1), 4);
        check.due("number(0,2)", x.number(0, 2), -1);
        check.due("number(0,-1)", x.number(0, -1), -1);
        check.due("number(1,0)", x.number(1, 0), -1);
        check.due("number(-1,0)", x.number(-1, 0), -1);
        check.due("number(MAX,MAX)", x.number(Integer.MAX_VALUE, Integer.MAX_VALUE), -1);
    }

    private static void at() {
        WordKeys x = Check.with("kind a;word b is a;word c is a;");
        check.due("at(0) of an empty row", x.at(0), -1);
        Check.row(x, "c b c");
        check.dueRow("at", x::at, 1, 0, 1);
        check.due("at(-1)", x.at(-1), -1);
        check.due("at(MAX)", x.at(Integer.MAX_VALUE), -1);
    }

    private static void about() {
        WordKeys x = Check.with("kind a;kind b;kind c;word w is a;word v is b;goal (a/b)/c;");
        Check.row(x, "w v w");
        x.example(true);
        x.example(false);
        x.untell(0);
        x.later(9);
        x.feed(0, 0, 0, 0, 0);
        check.dueRow("about", x::about, 3, 2, 3, 2, 9, 20, 3);
        check.due("about(-1)", x.about(-1), -1);
        check.due("about(MIN)", x.about(Integer.MIN_VALUE), -1);
        Check.lexicon(x, "");
        x = Check.with("kind a;kind b;word w is a;");
        check.due("without goal: KIND 0", x.about(6), 1);
        x.end(0);
        x.lexicon();
        check.due("without KINDS", x.about(6), 0);
    }
}
