import java.io.IOException;
import java.nio.file.Files;
import java.nio.file.Path;
import java.util.ArrayList;
import java.util.List;

/** The example of README.md: it stands here line by line, and each answer that it tells is as due. */
public final class ReadmeTest {
    private static final Check check = new Check();

    public static void main(String[] args) throws IOException {
        Path root = Path.of(args.length > 0 ? args[0] : ".");
        example();
        List<String> here = Files.readAllLines(root.resolve("src/test/java/ReadmeTest.java"));
        List<String> shown = between(Files.readAllLines(root.resolve("README.md")), "```java", "```");
        List<String> played = between(here, "        // example", "        // end of it");
        check.due("lines of the example", shown.size() > 5, true);
        check.due("README.md shows what is played here", shown.equals(played), true);
        mentionsTheFace(String.join("\n", Files.readAllLines(root.resolve("README.md"))));
        check.finish("ReadmeTest");
    }

    private static List<String> between(List<String> lines, String first, String last) {
        List<String> found = new ArrayList<>();
        boolean isWithin = false;
        for (String line : lines) {
            if (isWithin && line.equals(last)) {
                break;
            }
            if (isWithin) {
                found.add(line.strip());
            }
            isWithin |= line.equals(first);
        }
        return found;
    }

    private static void mentionsTheFace(String readme) {
        for (java.lang.reflect.Method method : WordKeys.class.getMethods()) {
            if (method.getDeclaringClass() == WordKeys.class) {
                check.due("README.md says how to use " + method.getName(), readme.contains("`" + method.getName() + "("), true);
            }
        }
    }

    /** A text by feed and end, as README.md says. */
    private static void type(WordKeys x, String text) {
        Check.type(x, text);
    }

    private static void due(int got, int want) {
        check.due("the example", got, want);
    }

    private static void example() {
        // example
        WordKeys x = new WordKeys();
        type(x, "kind s; kind n; word john is n; word mary is n; word sees is (n\\s)/n; goal s;");
        due(x.lexicon(), 3);        // WORDS; NONE: fault(0), fault(1) say why and where
        due(x.number(0, 0), 1);     // john's tag: the KIND n
        type(x, "john sees mary");
        due(x.row(), 3);            // words of the ROW
        due(x.readings(), 1);       // so it is a sentence
        due(x.meaning(0, 0), 1);    // the word at place 1 (sees), then its ARGUMENTS:
        due(x.meaning(0, 1), 2);    // mary, the outermost slash first,
        due(x.meaning(0, 2), 0);    // and john
        due(x.over(0, 2), 1);       // over mary stands sees
        due(x.example(true), 0);    // told as right
        type(x, "sees john mary");
        due(x.row(), 3);
        due(x.readings(), 0);       // no sentence, though
        due(x.even(), 1);           // its ends come out even;
        due(x.mended(0), 1);        // one pair of words changed about
        due(x.mended(1), 213);      // makes it one: john sees mary
        due(x.example(false), 1);   // told as wrong
        due(x.judge(0), WordKeys.NONE);
        // end of it
    }
}
