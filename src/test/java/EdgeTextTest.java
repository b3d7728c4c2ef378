/**
 * The edges of promises 1 to 9 and 31 and of section 1 of the Terms: each method is headed by the words of the
 * document that it holds the class to.
 */
public final class EdgeTextTest {
    private static final Check check = new Check();
    private static final String FIVE = "kind a;kind b;kind c;kind d;kind e;";
    private static final String[] KEYWORDS = {"kind", "goal", "word", "is", "or"};
    private static final int[] FAR = {Integer.MIN_VALUE, Integer.MIN_VALUE + 1, -1000, 1000, Integer.MAX_VALUE};

    public static void main(String[] args) {
        emptyAtFirst();
        noMoreThan1600Bytes();
        highestByteFirst();
        firstBytesOfTheTape();
        fullTapeIsALexicon();
        endIsTheTextsLength();
        wordsOf8Letters();
        bytesThatAreNoTokens();
        blanksPartOrNot();
        asLongAsCanBe();
        keywordsAreNoNames();
        fiveKinds();
        twelveWords();
        threeTags();
        goalOnce();
        withoutGoal();
        withoutKinds();
        numberedAsTold();
        kindsToldAhead();
        fourKindsOfATag();
        bracketsWithinThreeOthers();
        firstFaultByPlace();
        leastFaultAtOnePlace();
        namesToldAlready();
        linesThatEndEarly();
        lexiconTakesAll();
        lexiconRefused();
        rowsOfEight();
        rowRefused();
        rowTaken();
        faultOfTheLatest();
        tagsOfWords();
        numbersOfTags();
        moreThanTwoSlashes();
        wordsOfTheRow();
        aboutAtItsEdges();
        check.finish("EdgeTextTest");
    }

    private static String times(String text, int n) {
        return text.repeat(n);
    }

    private static String words(int n) {
        StringBuilder text = new StringBuilder();
        for (int i = 0; i < n; i++) {
            text.append("word w").append((char) ('a' + i)).append(" is a;");
        }
        return text.toString();
    }

    private static void taken(String text, int words) {
        WordKeys x = new WordKeys();
        check.due("lexicon: " + text, Check.lexicon(x, text), words);
        check.due("no fault: " + text, x.fault(0), 0);
        check.due("no place: " + text, x.fault(1), -1);
        check.due("an empty tape: " + text, x.about(5), 0);
    }

    private static void faulty(String text, int fault, int place) {
        WordKeys x = new WordKeys();
        check.due("lexicon: " + text, Check.lexicon(x, text), -1);
        check.due("fault of: " + text, x.fault(0), fault);
        check.due("place of: " + text, x.fault(1), place);
    }

    private static void faultyRow(WordKeys x, String text, int fault, int place) {
        check.due("row: " + text, Check.row(x, text), -1);
        check.due("fault of row: " + text, x.fault(0), fault);
        check.due("place of row: " + text, x.fault(1), place);
    }

    /** "WordKeys(): An empty LEXICON." "A LEXICON is a text .. (empty at first)." */
    private static void emptyAtFirst() {
        new Twins(check, x -> { }).refused("lexicon of nothing", x -> x.lexicon(), 0)
            .refused("row of nothing", x -> x.row(), 0).alike("a new object has an empty lexicon and row");
        WordKeys x = new WordKeys();
        check.due("no KIND", x.lacks(0), -1000);
        check.due("no WORD", x.tags(0), -1);
        check.due("no row", x.at(0), -1);
        check.due("no word for a row", Check.row(x, "a"), -1);
        check.due("none is called so", x.fault(0), 5);
    }

    /** "Twenty bytes come behind those on the TAPE ..: how many there are; NONE, and nothing comes, if .. more than 1,600." */
    private static void noMoreThan1600Bytes() {
        WordKeys x = new WordKeys();
        for (int n = 20; n <= 1600; n += 20) {
            check.due("feed to " + n, x.feed(0x61616161, 0x61616161, 0x61616161, 0x61616161, 0x61616161), n);
        }
        check.due("feed to 1620", x.feed(0, 0, 0, 0, 0), -1);
        check.due("bytes then", x.about(5), 1600);
        check.due("all but one", x.end(1581), 1581);
        check.due("feed to 1601", x.feed(0, 0, 0, 0, 0), -1);
        check.due("bytes then", x.about(5), 1581);
        check.due("one less", x.end(1580), 1580);
        check.due("feed to 1600", x.feed(0, 0, 0, 0, 0), 1600);
        int[] full = {1581, 1600};
        for (int n : full) {
            new Twins(check, y -> {
                told(y);
                y.end(0);
                Check.type(y, times(" ", 1570) + "q p" + times("\n", n - 1573));
            }).refused("feed at " + n, y -> y.feed(0x71717171, 0x71717171, 0x71717171, 0x71717171, 0x71717171))
                .alike("nothing comes at " + n);
        }
    }

    /** A state in which all has something to lose. */
    private static void told(WordKeys x) {
        Check.lexicon(x, "kind a;kind b;word p is a or b;word q is a/a or a/b;word r is a\\a;");
        x.later(3);
        Check.row(x, "q p r");
        x.example(true);
        Check.row(x, "r p");
        x.example(true);
        x.image(0);
        x.later(4);
        x.untell(1);
        Check.row(x, "p r");
        x.example(false);
        x.image(2);
        Check.row(x, "p ?");
        Check.row(x, "q q p");
        Check.type(x, "r r p p");
    }

    /** ".. of each number the highest first" */
    private static void highestByteFirst() {
        WordKeys x = new WordKeys();
        // "kind" " abc" "defg" "h;wo" "rd x"
        x.feed(0x6b696e64, 0x20616263, 0x64656667, 0x683b776f, 0x72642078);
        // " is " "abcd" "efgh" ";   " and four bytes that are no TOKENS
        x.feed(0x20697320, 0x61626364, 0x65666768, 0x3b202020, 0xff80fe81);
        check.due("without the last four", x.end(36), 36);
        check.due("lexicon", x.lexicon(), 1);
        check.due("its tag", x.number(0, 0), 0);
        x.feed(0x20202020, 0x20202020, 0x20202020, 0x20202020, 0x20202080);
        check.due("the last byte of a number", x.row(), -1);
        check.due("is the last of twenty", x.fault(1), 19);
        x.feed(0x80202020, 0x20202020, 0x20202020, 0x20202020, 0x20202020);
        check.due("the first byte of a number", x.row(), -1);
        check.due("is the first of twenty", x.fault(1), 0);
    }

    /** "The TAPE has its first n bytes: n; NONE, doing nothing, if it has not so many, or n is below 0." */
    private static void firstBytesOfTheTape() {
        WordKeys x = new WordKeys();
        check.due("end(0) of none", x.end(0), 0);
        check.due("end(1) of none", x.end(1), -1);
        Check.type(x, "kind a;word p is a;xyz");
        check.due("as many as there are", x.end(22), 22);
        check.due("one more", x.end(23), -1);
        check.due("below 0", x.end(-1), -1);
        check.due("all are there", x.about(5), 22);
        check.due("one less", x.end(21), 21);
        check.due("those are gone", x.end(22), -1);
        check.due("end(19)", x.end(19), 19);
        check.due("the rest is gone", x.lexicon(), 1);
        Check.type(x, "p p");
        x.end(2);
        x.feed(0x20202020, 0x20202020, 0x20202020, 0x20202020, 0x20202020);
        check.due("behind the first n", x.row(), 1);
        Check.type(x, "p p");
        check.due("none", x.end(0), 0);
        check.due("a row of none", x.row(), 0);
        new Twins(check, EdgeTextTest::told).refused("end(-1)", y -> y.end(-1)).refused("end(8)", y -> y.end(8))
            .refused("end(MIN)", y -> y.end(Integer.MIN_VALUE)).refused("end(MAX)", y -> y.end(Integer.MAX_VALUE))
            .refused("end(1600)", y -> y.end(1600)).refused("end(7), as many", y -> y.end(7), 7).alike("end does nothing");
    }

    /** "A LEXICON is a text of at most 1,600 bytes" */
    private static void fullTapeIsALexicon() {
        String most = FIVE + words(12) + "goal e";
        taken(most + times(" ", 1599 - most.length()) + ";", 12);
        faulty(most + times(" ", 1599 - most.length()) + "?", 1, 1599);
        faulty(most + times("\n", 1600 - most.length()), 2, 1600);
        taken(times(" ", 1600), 0);
        taken(times("\n", 1599), 0);
        WordKeys x = Check.with("kind a;word p is a;");
        check.due("a full row", Check.row(x, times(" ", 1599) + "p"), 1);
        faultyRow(x, times(" ", 1599) + ";", 2, 1599);
        check.due("a full row of blanks", Check.row(x, times("\n", 1600)), 0);
    }

    /** "FAULTS, the first by its place (bytes from 0; the end: the text's length)" */
    private static void endIsTheTextsLength() {
        faulty("?", 1, 0);
        faulty("k", 2, 0);
        faulty("kind", 2, 4);
        faulty("kind ", 2, 5);
        faulty("kind a", 2, 6);
        faulty("kind a \n ", 2, 9);
        faulty("kind a;goal", 2, 11);
        faulty("kind a;goal a/", 2, 14);
        faulty("kind a;goal (", 2, 13);
        faulty("kind a;goal (a", 2, 14);
        faulty("kind a;word", 2, 11);
        faulty("kind a;word p", 2, 13);
        faulty("kind a;word p is", 2, 16);
        faulty("kind a;word p is a", 2, 18);
        faulty("kind a;word p is a or", 2, 21);
    }

    /** "words (a .. z, 8 at most)" */
    private static void wordsOf8Letters() {
        taken("kind abcdefgh;word ijklmnop is abcdefgh;word q is abcdefgh;", 2);
        taken("kind zzzzzzzz;kind zzzzzzzy;kind yzzzzzzz;kind zzzzzzz;", 0);
        // the ninth letter begins the next TOKEN
        faulty("kind abcdefghi;", 2, 13);
        faulty("abcdefghi", 2, 0);
        taken("kind abcdefgh;word ijklmnopis abcdefgh;", 1);
        faulty("kind abcdefgh;word p is abcdefghabcdefgh;", 2, 32);
        taken("kind abcdefgh;word p is abcdefghor abcdefgh;", 1);
        WordKeys x = Check.with("kind a;word bbbbbbbb is a;word b is a;");
        check.due("a row of nine letters", Check.row(x, "bbbbbbbbb"), 2);
        check.due("its second word", x.at(1), 1);
        check.due("a row of eight letters", Check.row(x, "bbbbbbbb"), 1);
        faultyRow(x, "bbbbbbb", 5, 0);
        faultyRow(x, "bbbbbbbc", 5, 0);
        faultyRow(x, "bbbbbbbbc", 5, 8);
    }

    /** "1 no TOKEN": of all bytes a .. z, the five signs and the two blanks are all that can stand in one. */
    private static void bytesThatAreNoTokens() {
        for (int b = 0; b < 256; b++) {
            WordKeys x = Check.with("kind k;word p is k;");
            String text = "p" + (char) b;
            boolean isLetter = b >= 'a' && b <= 'z';
            boolean isSign = b == ';' || b == '(' || b == ')' || b == '/' || b == '\\';
            boolean isBlank = b == 32 || b == 10;
            if (isBlank) {
                check.due("blank " + b, Check.row(x, text), 1);
            } else if (isLetter) {
                faultyRow(x, text, 5, 0);
            } else {
                faultyRow(x, text, isSign ? 2 : 1, 1);
            }
        }
    }

    /** "blanks (32, 10) part them or not" */
    private static void blanksPartOrNot() {
        taken("kind a;goal(a/a)\\a;word p is(a/a)or(a\\(a/a));", 1);
        taken("kind a ; goal ( a / a ) \\ a ; word p is ( a / a ) or ( a \\ ( a / a ) ) ;", 1);
        taken("\n\nkind\na\n;\ngoal\n(\na\n/\na\n)\n;\nword\np\nis\na\n;\n", 1);
        faulty("kind a\t;", 1, 6);
        faulty("kind a\r;", 1, 6);
        WordKeys x = Check.with("kind a;word p is a;word q is a;word pq is a;");
        check.due("by a blank", Check.row(x, "p q"), 2);
        check.due("by a line's end", Check.row(x, "p\nq"), 2);
        check.due("by many", Check.row(x, "\n p \n\n  q \n"), 2);
        check.due("by none", Check.row(x, "pq"), 1);
        check.due("is a word of its own", x.at(0), 2);
    }

    /** "each is as long as can be" */
    private static void asLongAsCanBe() {
        faulty("kinda;", 2, 0);
        faulty("kind a;worda is a;", 2, 7);
        faulty("kind a;word p isa;", 2, 14);
        faulty("kind a;word p is ab;", 5, 17);
        faulty("kind a;word p is a ora;", 2, 19);
        taken("kind kinds;kind goals;kind wo;word iss is kinds;word ors is goals;word ki is wo;", 3);
    }

    /** "Words that stand for themselves here are no NAMES." */
    private static void keywordsAreNoNames() {
        for (String keyword : KEYWORDS) {
            faulty("kind " + keyword + ";", 2, 5);
            faulty("kind a;word " + keyword + " is a;", 2, 12);
            faulty("kind a;goal " + keyword + ";", 2, 12);
            faulty("kind a;goal a/" + keyword + ";", 2, 14);
            faulty("kind a;word p is " + keyword + ";", 2, 17);
            faulty("kind a;word p is a or (" + keyword + "/a);", 2, 23);
            WordKeys x = Check.with("kind a;word p is a;");
            faultyRow(x, "p " + keyword, 2, 2);
        }
        faulty("is a;", 2, 0);
        faulty("or a;", 2, 0);
    }

    /** "At most 5 KINDS": "one of a sort too many ..: at the line's first word" */
    private static void fiveKinds() {
        taken(FIVE, 0);
        WordKeys x = Check.with(FIVE + "goal e;word p is e;");
        check.due("five KINDS", x.about(0), 5);
        check.due("the last one", x.number(0, 0), 4);
        faulty(FIVE + "kind f;", 2, 35);
        faulty(FIVE + "word p is a;\n kind f;", 2, 49);
        // ahead of all that is wrong behind it in that line
        faulty(FIVE + "kind", 2, 35);
        faulty(FIVE + "kind a;", 2, 35);
        faulty(FIVE + "kind ?", 2, 35);
    }

    /** "12 WORDS" */
    private static void twelveWords() {
        taken("kind a;" + words(12), 12);
        taken("kind a;" + words(12) + "goal a;kind b;", 12);
        faulty("kind a;" + words(13), 2, 7 + 12 * 13);
        faulty("kind a;" + words(12) + "word wa is z", 2, 7 + 12 * 13);
        faulty("kind a;" + words(12) + "  word", 2, 9 + 12 * 13);
        WordKeys x = Check.with("kind a;" + words(12));
        check.due("the 12th in a row", Check.row(x, "wl"), 1);
        check.due("its number", x.at(0), 11);
    }

    /** "3 tags of each"; "a 4th tag: at the or" */
    private static void threeTags() {
        WordKeys x = Check.with("kind a;kind b;word p is a;word q is a or b;word r is a or b or a/b;");
        check.dueRow("tags", x::tags, 1, 2, 3);
        check.due("the third", x.number(2, 2), 3);
        faulty("kind a;word p is a or a or a or a;", 2, 29);
        faulty("kind a;word p is a or a or a or", 2, 29);
        faulty("kind a;word p is a or a or a or ?", 2, 29);
        faulty("kind a;word p is a or a or z or a;", 5, 27);
        // each word has its own three
        taken("kind a;word p is a or a or a;word q is a or a or a;", 2);
    }

    /** "goal once"; "goal a second time: at the line's first word" */
    private static void goalOnce() {
        taken("kind a;goal a;", 0);
        faulty("kind a;goal a;goal a;", 2, 14);
        faulty("kind a;goal a;word p is a; goal", 2, 27);
        faulty("kind a;goal a;goal z;", 2, 14);
        faulty("kind a;goal a;goal ?", 2, 14);
    }

    /** "without it: KIND 0" */
    private static void withoutGoal() {
        WordKeys x = Check.with("kind a;kind b;word p is b;word q is a;");
        check.due("one end", x.about(6), 1);
        check.due("it wants KIND 0", x.lacks(0), 1);
        check.due("and no other", x.lacks(1), 0);
        Check.row(x, "q");
        check.due("a word of KIND 0", x.readings(), 1);
        Check.row(x, "p");
        check.due("a word of KIND 1", x.readings(), 0);
        x = Check.with("kind a;kind b;word p is b;goal b;");
        Check.row(x, "p");
        check.due("with it", x.readings(), 1);
        Check.lexicon(x, "kind a;kind b;word p is b;");
        Check.row(x, "p");
        check.due("the older goal is gone", x.readings(), 0);
        Check.lexicon(x, "kind a;kind b;word p is b;goal b;");
        for (int i = 0; i < 3; i++) {
            Check.lexicon(x, "kind a;kind b;word p is b;");
            Check.row(x, "p");
            check.due("and stays so " + i, x.readings(), 0);
        }
    }

    /** "without KINDS there are no sentences" */
    private static void withoutKinds() {
        WordKeys x = Check.with("kind a;word p is a;goal a;");
        Check.row(x, "p");
        check.due("a sentence", x.readings(), 1);
        Check.lexicon(x, "");
        check.due("no ends", x.about(6), 0);
        check.due("no readings", x.readings(), 0);
        check.due("none even", x.even(), 0);
        check.due("nothing lost", x.lost(), -1);
        check.due("nothing mended", x.mended(0), -1);
        check.due("nothing added", x.added(0), -1);
        check.due("no KIND", x.lacks(0), -1000);
        check.due("none wrong", x.judge(0), -1);
        faulty("goal a;", 5, 5);
        faulty("word p is a;", 5, 10);
    }

    /** "numbered as told" */
    private static void numberedAsTold() {
        WordKeys x = Check.with("kind z;word y is z;kind a;word b is a;kind m;word c is m or a;");
        check.due("y", x.number(0, 0), 0);
        check.due("b", x.number(1, 0), 1);
        check.due("c", x.number(2, 0), 2);
        check.due("c again", x.number(2, 1), 1);
        Check.row(x, "c b y");
        check.dueRow("places", x::at, 2, 1, 0);
    }

    /** "NAMES of a T are KINDS told ahead"; "5 a NAME that no KIND has" */
    private static void kindsToldAhead() {
        taken("kind a;word p is a;kind b;word q is b;", 2);
        faulty("word p is a;kind a;", 5, 10);
        faulty("kind a;word p is b;kind b;", 5, 17);
        faulty("kind a;goal b;kind b;", 5, 12);
        faulty("kind a;word p is a;word q is p;", 5, 29);
        faulty("kind a;word p is p;", 5, 17);
        faulty("kind a;word p is a\\b;", 5, 19);
        faulty("kind a;word p is (a\\a)/(b);", 5, 24);
        faulty("kind ab;word p is a;", 5, 18);
        faulty("kind a;word p is aa;", 5, 17);
    }

    /** "a T has at most 4 KINDS in it"; "a 5th KIND of a T: there" */
    private static void fourKindsOfATag() {
        String[] four = {"((a/a)/a)/a", "(a/(a/a))/a", "(a/a)/(a/a)", "a/((a/a)/a)", "a/(a/(a/a))", "a\\((a\\a)\\a)"};
        for (String tag : four) {
            taken("kind a;goal " + tag + ";word p is " + tag + " or " + tag + " or " + tag + ";", 1);
            int fifth = "kind a;goal (".length() + tag.length() + ")/".length();
            faulty("kind a;goal (" + tag + ")/a;", 2, fifth);
            faulty("kind a;goal (" + tag + ")/z;", 2, fifth);
            faulty("kind a;goal (" + tag + ")/(a);", 2, fifth + 1);
            faulty("kind a;goal (" + tag + ")/?;", 1, fifth);
        }
        faulty("kind a;word p is a or ((a/a)/a)/(a\\a);", 2, 35);
        WordKeys x = Check.with("kind a;goal (a/a)/(a/a);");
        check.due("ends of four", x.about(6), 4);
    }

    /** "a unit ( T ) stands within 3 others at most"; "a ( within 4 others: there" */
    private static void bracketsWithinThreeOthers() {
        taken("kind a;goal ((((a))));", 0);
        taken("kind a;goal ((((a/a)/a)/a));", 0);
        taken("kind a;word p is a\\((((a)))) or ((((a))))/((((a))));", 1);
        taken("kind a;goal (((a/(a))/((a))));", 0);
        faulty("kind a;goal (((((a)))));", 2, 16);
        faulty("kind a;goal ((((a/(a)))));", 2, 18);
        faulty("kind a;goal (((((", 2, 16);
        faulty("kind a;goal a/(((((a)))));", 2, 18);
        faulty("kind a;goal ((((a))))/(((((a)))));", 2, 26);
        faulty("kind a;word p is a or (((((a)))));", 2, 26);
        // closed ones count no more
        taken("kind a;goal ((((a)/(a))/(a)))/(a);", 0);
        faulty("kind a;goal (((((a)/(a))/(a))))/(a);", 2, 16);
    }

    /** "FAULTS, the first by its place" */
    private static void firstFaultByPlace() {
        faulty("kind a;kind a;?", 3, 12);
        faulty("kind a;? kind a;", 1, 7);
        faulty("kind a;goal b;goal ?", 5, 12);
        faulty("kind a;goal a a ?", 2, 14);
        faulty("kind a;word a is ?", 3, 12);
        faulty("kind a;word p is b or ?", 5, 17);
    }

    /** "at one place the least" */
    private static void leastFaultAtOnePlace() {
        faulty(FIVE + "kind a;", 2, 35);
        faulty("kind a;goal ((a/a)/(a/a))/z;", 2, 26);
        WordKeys x = Check.with("kind a;word p is a;");
        faultyRow(x, "p p p p p p p p z", 2, 16);
        faultyRow(x, "p p p p p p p p ?", 1, 16);
        faultyRow(x, "p p p p p p p z p", 5, 14);
    }

    /** "3 a NAME told already (KINDS and WORDS together)" */
    private static void namesToldAlready() {
        faulty("kind a;kind a;", 3, 12);
        faulty("kind a;kind b;kind a;", 3, 19);
        faulty("kind a;word a is a;", 3, 12);
        faulty("kind a;word p is a;kind p;", 3, 24);
        faulty("kind a;word p is a;word p is a;", 3, 24);
        faulty(FIVE + "word e is a;", 3, 40);
        faulty("kind a;" + words(11) + "word wk is a;", 3, 12 + 11 * 13);
        taken("kind a;word aa is a;word aaa is a;", 2);
        // what a refused text told is not told
        WordKeys x = Check.with("kind a;");
        Check.lexicon(x, "kind c;word p is c;?");
        check.due("names are free", Check.lexicon(x, "kind p;kind c;word a is c;"), 1);
    }

    /** "2 one that can't stand there" */
    private static void linesThatEndEarly() {
        faulty(";", 2, 0);
        faulty("a;", 2, 0);
        faulty("(", 2, 0);
        faulty("kind a;;", 2, 7);
        faulty("kind a b;", 2, 7);
        faulty("kind (a);", 2, 5);
        faulty("kind a;goal;", 2, 11);
        faulty("kind a;goal ();", 2, 13);
        faulty("kind a;goal a/;", 2, 14);
        faulty("kind a;goal /a;", 2, 12);
        faulty("kind a;goal a/a/a;", 2, 15);
        faulty("kind a;goal a/a\\a;", 2, 15);
        faulty("kind a;goal (a/a/a);", 2, 16);
        faulty("kind a;goal a);", 2, 13);
        faulty("kind a;goal (a;", 2, 14);
        faulty("kind a;goal a or a;", 2, 14);
        faulty("kind a;goal is a;", 2, 12);
        faulty("kind a;word p;", 2, 13);
        faulty("kind a;word p a;", 2, 14);
        faulty("kind a;word p is;", 2, 16);
        faulty("kind a;word p is a or;", 2, 21);
        faulty("kind a;word p is a a;", 2, 19);
        faulty("kind a;word p is or a;", 2, 17);
    }

    /** "The TAPE (empty then) is the LEXICON (the ROW is empty, EXAMPLES are none, BOXES are empty then; the TIME stays)" */
    private static void lexiconTakesAll() {
        WordKeys x = new WordKeys();
        told(x);
        x.image(1);
        x.end(0);
        String same = "kind a;kind b;word p is a or b;word q is a/a or a/b;word r is a\\a;";
        check.due("the same text once more", Check.lexicon(x, same), 3);
        check.due("the tape", x.about(5), 0);
        check.due("the row", x.about(2), 0);
        check.due("its first place", x.at(0), -1);
        check.due("its readings", x.readings(), 0);
        check.due("the examples", x.about(3), 0);
        check.due("none to judge", x.judge(7), -1);
        check.due("none to learn from", x.learnt(-1, 7), 0);
        check.due("none to untell", x.untell(0), false);
        for (int box = 0; box < 3; box++) {
            check.due("box " + box, x.back(box), -1);
        }
        check.due("the time", x.about(4), 7);
        Check.row(x, "p");
        check.due("examples from 0 on", x.example(true), 0);
        check.due("told at 7", x.learnt(-1, 6) + 10 * x.judge(6), -10);
    }

    /** "NONE: a FAULT (all stays)" */
    private static void lexiconRefused() {
        String[] refused = {"?", "kind", "kind a;word p is a", FIVE + "goal e;" + words(12) + "word x is a;",
            "kind a;kind b;kind c;word p is c;word q is b;goal ((c/c)/c)/c;kind a;", "kind b;word q is b;word p is z;"};
        for (String text : refused) {
            new Twins(check, EdgeTextTest::told).refusedText(text, x -> x.lexicon()).alike("stays: " + text, false);
        }
        WordKeys x = new WordKeys();
        Check.type(x, "kind");
        check.due("a fault", x.lexicon(), -1);
        check.due("the tape is empty", x.about(5), 0);
    }

    /** "The TAPE (empty then) is the ROW, NAMES of WORDS, 8 at most: how many"; "2: no word, or a 9th" */
    private static void rowsOfEight() {
        WordKeys x = Check.with("kind a;word p is a;word q is a;");
        for (int n = 0; n <= 8; n++) {
            check.due("words: " + n, Check.row(x, times("q ", n)), n);
            check.due("in the row: " + n, x.about(2), n);
            check.due("the last: " + n, x.at(n - 1), n == 0 ? -1 : 1);
            check.due("behind it: " + n, x.at(n), -1);
            check.due("the tape: " + n, x.about(5), 0);
        }
        faultyRow(x, times("p ", 9), 2, 16);
        faultyRow(x, times("p ", 8) + "kind", 2, 16);
        faultyRow(x, times("p ", 8) + ";", 2, 16);
        faultyRow(x, times("p ", 8) + "z", 2, 16);
        faultyRow(x, times("p ", 8) + "?", 1, 16);
        check.due("blanks are no ninth", Check.row(x, times("p ", 8) + "\n "), 8);
        faultyRow(x, "p a", 5, 2);
        faultyRow(x, "z", 5, 0);
        faultyRow(x, "p(", 2, 1);
    }

    /** "NONE: a FAULT (..; all stays)" */
    private static void rowRefused() {
        String[] refused = {"?", ";", "p p p p p p p p p", "a", "p q r z", "kind", "r r r r r r r r ?"};
        for (String text : refused) {
            new Twins(check, EdgeTextTest::told).refusedText(text, x -> x.row()).alike("stays: " + text, false);
        }
    }

    /** A ROW that is taken leaves EXAMPLES, BOXES and the TIME alone, an empty one, too. */
    private static void rowTaken() {
        WordKeys x = new WordKeys();
        told(x);
        check.due("from the tape", x.row(), 4);
        check.due("examples", x.about(3), 3);
        check.due("time", x.about(4), 7);
        x.row();
        check.due("an empty row", x.about(2), 0);
        check.due("examples still", x.about(3), 3);
        check.due("judged as before", x.judge(3), 1);
        check.due("box 0", x.back(0), 2);
        check.due("box 2", x.back(2), 3);
    }

    /** "Of the latest of both what 0: its FAULT (0), 1: its place (NONE). NONE for another what." */
    private static void faultOfTheLatest() {
        WordKeys x = new WordKeys();
        check.due("none so far", x.fault(0), 0);
        check.due("no place so far", x.fault(1), -1);
        Check.lexicon(x, "kind a;kind a;");
        check.due("a lexicon's", x.fault(0) * 100 + x.fault(1), 312);
        Check.row(x, " ;");
        check.due("a row's", x.fault(0) * 100 + x.fault(1), 201);
        x.feed(0, 0, 0, 0, 0);
        x.end(-1);
        x.back(0);
        x.example(true);
        check.due("other calls have none", x.fault(0) * 100 + x.fault(1), 201);
        x.end(0);
        x.row();
        check.due("of a good row", x.fault(0) * 100 + x.fault(1), -1);
        Check.row(x, "z");
        check.due("a row's again", x.fault(0) * 100 + x.fault(1), 500);
        check.due("a good lexicon", Check.lexicon(x, "kind a;"), 0);
        check.due("of a good lexicon", x.fault(0) * 100 + x.fault(1), -1);
        Check.lexicon(x, "kind ?");
        int[] others = {-1, 2, 3, 5};
        for (int what : others) {
            check.due("fault " + what, x.fault(what), -1);
        }
        for (int what : FAR) {
            check.due("fault " + what, x.fault(what), -1);
        }
    }

    /** "How many tags a WORD has; NONE if there is none such." */
    private static void tagsOfWords() {
        WordKeys x = Check.with("kind a;" + words(11) + "word wl is a or a or a;");
        check.dueRow("tags", x::tags, 1, 1, 1, 1, 1, 1, 1, 1, 1, 1, 1, 3);
        check.due("tags -1", x.tags(-1), -1);
        for (int word : FAR) {
            check.due("tags " + word, x.tags(word), -1);
        }
        Check.lexicon(x, "kind a;word p is a;");
        check.due("of one word", x.tags(0), 1);
        check.due("no second", x.tags(1), -1);
        for (int i = 1; i <= 3; i++) {
            Check.lexicon(x, "kind a;word p is a" + times(" or a", i - 1) + ";word q is a" + times(" or a", 3 - i) + ";");
            check.dueRow("tags of each lexicon its own", x::tags, i, 4 - i);
        }
        Check.lexicon(x, "");
        check.due("none at all", x.tags(0), -1);
    }

    private static void numbered(String kinds, String tag, int number) {
        WordKeys x = Check.with(kinds + "word w is " + tag + ";");
        check.due("number of " + tag + " with " + kinds, x.number(0, 0), number);
    }

    /** "A tag's NUMBER: ..": the first and the last one of each sort; "NONE if there is none such". */
    private static void numbersOfTags() {
        String one = "kind a;";
        String[] ofOne = {"a", "a/a", "a\\a", "a/(a/a)", "a/(a\\a)", "(a/a)/a", "(a\\a)/a", "a\\(a/a)", "a\\(a\\a)",
            "(a/a)\\a", "(a\\a)\\a"};
        for (int number = 0; number < ofOne.length; number++) {
            numbered(one, ofOne[number], number);
        }
        String[] edges = {"a", "e", "a/a", "a/e", "b/a", "e/e", "a\\a", "e\\e", "a/(a/a)", "a/(e/e)", "a/(a\\a)", "a/(e\\e)",
            "b/(a/a)", "e/(e\\e)", "(a/a)/a", "(a/a)/e", "(a/b)/a", "(a\\a)/a", "(e\\e)/e", "a\\(a/a)", "e\\(e\\e)",
            "(a/a)\\a", "(e/e)\\e", "(a\\a)\\a", "(e\\e)\\e"};
        int[] due = {0, 4, 5, 9, 10, 29, 30, 54, 55, 79, 80, 104,
            105, 304, 305, 309, 310, 430, 554, 555, 804,
            805, 929, 930, 1054};
        for (int i = 0; i < edges.length; i++) {
            numbered(FIVE, edges[i], due[i]);
        }
        WordKeys x = Check.with("kind a;word p is a or a/a;word q is (a\\a)\\a or a\\a or a;");
        check.due("the last tag of the last word", x.number(1, 2), 0);
        int[][] none = {{0, 2}, {0, -1}, {1, 3}, {1, -1}, {2, 0}, {-1, 0}, {0, 1000}, {12, 0}, {Integer.MAX_VALUE, 0},
            {0, Integer.MAX_VALUE}, {Integer.MIN_VALUE, 0}, {0, Integer.MIN_VALUE}, {1 << 30, 1 << 30}};
        for (int[] such : none) {
            check.due("number " + such[0] + " " + such[1], x.number(such[0], such[1]), -1);
        }
    }

    /** "-2 if it has more than two slashes" */
    private static void moreThanTwoSlashes() {
        String[] three = {"((a/a)/a)/a", "(a/(a/a))/a", "(a/a)/(a/a)", "a/((a/a)/a)", "a/(a/(a/a))", "(a\\a)\\(a\\a)"};
        for (String tag : three) {
            numbered("kind a;", tag, -2);
            numbered(FIVE, tag, -2);
        }
        numbered("kind a;", "((a/a))/((a))", 5);
    }

    /** "The word at a place of the ROW; NONE if there is none such." */
    private static void wordsOfTheRow() {
        WordKeys x = Check.with("kind a;" + words(12));
        check.due("of an empty row", x.at(0), -1);
        Check.row(x, "wl wa wb wc wd we wf wg");
        check.dueRow("at", x::at, 11, 0, 1, 2, 3, 4, 5, 6);
        check.due("at -1", x.at(-1), -1);
        for (int place : FAR) {
            check.due("at " + place, x.at(place), -1);
        }
        Check.row(x, "wc");
        check.dueRow("at of a shorter row", x::at, 2);
    }

    /** "What 0: KINDS, .. 6: ends of the goal. NONE for another what.": the least and the most of each */
    private static void aboutAtItsEdges() {
        WordKeys x = new WordKeys();
        check.dueRow("about of a new one", x::about, 0, 0, 0, 0, 0, 0, 0);
        Check.lexicon(x, FIVE + words(12) + "goal (a/b)/(c/d);");
        Check.row(x, "wa wa");
        for (int i = 0; i < 13; i++) {
            x.example(true);
        }
        for (int i = 0; i < 101; i++) {
            x.later(1000);
        }
        Check.row(x, times("wa ", 8));
        Check.type(x, times(" ", 1600));
        check.dueRow("about of a full one", x::about, 5, 12, 8, 12, 100000, 1600, 4);
        check.due("about -1", x.about(-1), -1);
        for (int what : FAR) {
            check.due("about " + what, x.about(what), -1);
        }
        x.untell(0);
        check.due("an untold one is an EXAMPLE still", x.about(3), 12);
    }
}
