import java.lang.reflect.InvocationTargetException;
import java.lang.reflect.Method;
import java.util.ArrayList;
import java.util.Arrays;
import java.util.Comparator;
import java.util.List;
import java.util.Random;
import java.util.TreeMap;

/** Runs of any calls, up to 512 on one object, by a fixed dice: each answer is held against the whole plain face. */
public final class RunsTest {
    private static final Check check = new Check();
    private static final int[] FAR = {Integer.MIN_VALUE, -1000, -3, -2, -1, 13, 20, 100, 255, 256, 300, 1000, Integer.MAX_VALUE};
    private static final String[] ASKED = {"fault", "tags", "number", "at", "readings", "chosen", "tied", "meaning", "same",
        "even", "lost", "mended", "could", "span", "added", "inPlace", "lacks", "over", "judge", "learnt", "about",
        "meaning", "tied", "over", "same", "learnt", "judge", "learnt"};
    private static final String[] DONE = {"example", "untell", "later", "image", "back", "example", "example", "untell", "later"};
    private static final String[] NAMES = {"a", "b", "john", "isa", "kinda", "orr", "wordword", "zzzzzzzz", "i", "go", "x", "y", "w"};
    private static final String[] SPOILERS = {";", "(", ")", "/", "\\", "or", "is", "kind", "goal", "word", " ", "\n", "a", "john",
        "#", "\u00e9", "A", "\u0000", "abcdefghi"};

    private final Random dice;
    private final WordKeys x = new WordKeys();
    private final Plain plain = new Plain();
    private final List<String> story = new ArrayList<>();
    private final TreeMap<String, Method[]> methods = new TreeMap<>();
    private int calls;
    private boolean isWrong;
    private static final TreeMap<String, Integer> told = new TreeMap<>();

    private RunsTest(long seed) throws NoSuchMethodException {
        dice = new Random(seed);
        Method[] face = WordKeys.class.getDeclaredMethods();
        Arrays.sort(face, Comparator.comparing(Method::getName));
        for (Method method : face) {
            if (java.lang.reflect.Modifier.isPublic(method.getModifiers())) {
                Method twin = Plain.class.getMethod(method.getName(), method.getParameterTypes());
                twin.setAccessible(true);
                methods.put(method.getName(), new Method[] {method, twin});
            }
        }
    }

    public static void main(String[] args) throws ReflectiveOperationException {
        int runs = args.length > 1 ? Integer.parseInt(args[1]) : 300;
        long seed = args.length > 2 ? Long.parseLong(args[2]) : 1;
        Random seeds = new Random(seed);
        for (int run = 0; run < runs; run++) {
            new RunsTest(seeds.nextLong()).play();
        }
        if (args.length > 1) {
            System.out.println(told);
        }
        check.finish("RunsTest");
    }

    private void play() throws ReflectiveOperationException {
        int most = dice.nextInt(4) == 0 ? 512 : 120;
        while (calls < most && !isWrong) {
            int what = dice.nextInt(100);
            if (plain.about(1) < 1 && dice.nextInt(4) > 0 || what < 2) {
                text(lexicon(), "lexicon", most);
            } else if (what < 14) {
                text(row(), "row", most);
            } else if (what < 30) {
                ask(DONE[dice.nextInt(DONE.length)]);
            } else if (what < 32) {
                call("end", index(plain.about(5) + 1));
            } else {
                ask(ASKED[dice.nextInt(ASKED.length)]);
            }
        }
    }

    private void text(String text, String by, int most) throws ReflectiveOperationException {
        if (calls + text.length() / 20 + 3 > most) {
            calls = most;
            return;
        }
        int before = plain.about(5);
        for (int i = 0; i < text.length(); i += 20) {
            call("feed", Check.four(text, i), Check.four(text, i + 4), Check.four(text, i + 8), Check.four(text, i + 12),
                Check.four(text, i + 16));
        }
        call("end", before + text.length());
        if (dice.nextInt(30) > 0) {
            call(by);
        }
        for (int i = 0; i < 20 && calls < most && plain.readings() != 0 && dice.nextInt(8) > 0; i++) {
            ask(new String[] {"chosen", "tied", "meaning", "over", "same", "lost", "added", "mended", "could"}[i % 9]);
        }
    }

    private String lexicon() {
        int kinds = dice.nextInt(8) == 0 ? dice.nextInt(7) : 1 + dice.nextInt(3) / 2;
        int words = dice.nextInt(8) == 0 ? dice.nextInt(14) : 1 + dice.nextInt(5);
        List<String> lines = new ArrayList<>();
        List<String> names = new ArrayList<>(Arrays.asList(NAMES));
        for (int i = 0; names.size() < 20; i++) {
            names.add("n" + (char) ('a' + i));
        }
        java.util.Collections.shuffle(names, dice);
        for (int kind = 0; kind < kinds; kind++) {
            lines.add("kind " + names.get(kind) + blank() + ";");
        }
        List<String> wordLines = new ArrayList<>();
        for (int word = 0; word < words; word++) {
            StringBuilder line = new StringBuilder("word " + names.get(kinds + word) + " is ");
            int tags = dice.nextInt(60) == 0 ? 4 : 1 + dice.nextInt(dice.nextBoolean() ? 1 : 3);
            for (int i = 0; i < tags; i++) {
                line.append(i == 0 ? "" : " or ").append(tag(names, kinds, dice.nextInt(4), 0));
            }
            wordLines.add(line.append(blank()).append(";").toString());
        }
        if (dice.nextInt(3) == 0) {
            wordLines.add(dice.nextInt(words + 1), "goal " + tag(names, kinds, dice.nextInt(3), 0) + ";");
        }
        lines.addAll(wordLines);
        return spoilt(String.join(blank(), lines), 6);
    }

    private String blank() {
        return new String[] {"", " ", "\n", "  "}[dice.nextInt(4)];
    }

    private String tag(List<String> names, int kinds, int slashes, int depth) {
        if (kinds == 0 || slashes == 0) {
            String name = names.get(dice.nextInt(150) == 0 ? 7 : dice.nextInt(Math.max(kinds, 1)));
            return dice.nextInt(25) == 0 ? "(" + name + ")" : name;
        }
        int ahead = dice.nextInt(slashes);
        String all = tag(names, kinds, ahead, depth + 1) + blank() + (dice.nextBoolean() ? "/" : "\\") + blank()
            + tag(names, kinds, slashes - 1 - ahead, depth + 1);
        return depth > 0 || dice.nextInt(25) == 0 ? "(" + all + ")" : all;
    }

    /** Of some rows one that is a sentence, if there is one: rows that are none are all alike. */
    private String row() {
        List<String> names = plain.names();
        if (names.isEmpty()) {
            return spoilt(blank(), 2);
        }
        List<Integer> words = words(names.size());
        for (int tries = 0; tries < 12 && dice.nextInt(8) > 0 && !plain.isSentence(words); tries++) {
            words = words(names.size());
        }
        StringBuilder text = new StringBuilder();
        for (int word : words) {
            text.append(blank()).append(names.get(word)).append(" ");
        }
        return spoilt(text.toString(), 15);
    }

    private List<Integer> words(int many) {
        List<Integer> words = new ArrayList<>();
        int length = dice.nextInt(12) == 0 ? dice.nextInt(10) : 1 + dice.nextInt(5);
        for (int i = 0; i < length; i++) {
            words.add(dice.nextInt(many));
        }
        return words;
    }

    /** One time in so many some TOKEN or sign is put in, or some are left out. */
    private String spoilt(String text, int seldom) {
        if (dice.nextInt(seldom) > 0) {
            return text;
        }
        int from = dice.nextInt(text.length() + 1);
        int to = Math.min(text.length(), from + dice.nextInt(3));
        return text.substring(0, from) + SPOILERS[dice.nextInt(SPOILERS.length)] + text.substring(to);
    }

    private void ask(String name) throws ReflectiveOperationException {
        int words = plain.about(1);
        int places = plain.rowSize();
        if (isTooDear(name, words, places)) {
            return;
        }
        switch (name) {
            case "readings", "even", "lost" -> call(name);
            case "fault", "mended" -> call(name, index(2));
            case "tags" -> call(name, index(words));
            case "number" -> call(name, index(words), index(3));
            case "at", "inPlace" -> call(name, index(places));
            case "chosen", "over" -> call(name, index(plain.readings()), index(places));
            case "tied" -> call(name, index(plain.readings()), index(12));
            case "meaning" -> call(name, index(plain.readings()), index(6));
            case "same" -> call(name, index(plain.readings()));
            case "could" -> call(name, index(places), index(3), index(2));
            case "span" -> call(name, index(places), index(places), index(plain.about(0)));
            case "added" -> call(name, index(5));
            case "lacks" -> call(name, index(plain.about(0)));
            case "example" -> call(name, plain.readings() > 0 == dice.nextInt(6) > 0 ? 1 : 0);
            case "untell" -> call(name, index(plain.about(3)));
            case "later" -> call(name, dice.nextInt(6) == 0 ? 998 + dice.nextInt(4) : index(2));
            case "judge" -> call(name, time());
            case "learnt" -> call(name, index(words + 1) - 1, time());
            case "image", "back" -> call(name, index(3));
            default -> call(name, index(7));
        }
    }

    private int time() {
        return plain.about(4) + 1 - index(5);
    }

    /** Mostly one of so many, at times the first one that is too many, at times a far one. */
    private int index(int many) {
        int odd = dice.nextInt(20);
        if (odd == 0) {
            return FAR[dice.nextInt(FAR.length)];
        }
        return odd == 1 || many < 1 ? many : dice.nextInt(many);
    }

    private boolean isTooDear(String name, int words, int places) {
        long rows = switch (name) {
            case "added" -> plain.choices(2) * (words * (places + 2L)) * (words * (places + 2L)) / 8;
            case "mended" -> plain.choices(0) * 720;
            case "lost" -> plain.choices(0) << places;
            case "could" -> plain.choices(0) * (plain.about(0) > 2 ? 1000 : 80);
            case "learnt" -> words == 4 && plain.about(0) == 2 ? dice.nextInt(4) * 20000L : 0;
            default -> plain.choices(0);
        };
        return rows > 40000;
    }

    private void call(String name, int... numbers) throws ReflectiveOperationException {
        if (isWrong) {
            return;
        }
        Method[] both = methods.get(name);
        Object[] arguments = new Object[numbers.length];
        for (int i = 0; i < numbers.length; i++) {
            boolean isNumber = both[0].getParameterTypes()[i] == int.class;
            arguments[i] = isNumber ? (Object) numbers[i] : (Object) (numbers[i] != 0);
        }
        String call = name + Arrays.toString(arguments);
        long want = answer(both[1], plain, arguments);
        long got = answer(both[0], x, arguments);
        calls++;
        story.add(call + " = " + got);
        told.merge(name + (want < 0 ? want : want == 0 ? " 0" : " +"), 1, Integer::sum);
        check.due(call, got, want);
        if (got != want) {
            isWrong = true;
            System.out.println("by " + plain + "\n  after " + story);
        }
    }

    private static long answer(Method method, Object on, Object[] arguments) throws ReflectiveOperationException {
        try {
            Object answer = method.invoke(on, arguments);
            return answer instanceof Boolean told ? told ? 1 : 0 : (Integer) answer;
        } catch (InvocationTargetException thrown) {
            thrown.getCause().printStackTrace(System.out);
            return Long.MIN_VALUE;
        }
    }
}
