import java.io.IOException;
import java.lang.management.ManagementFactory;
import java.lang.reflect.Constructor;
import java.lang.reflect.Field;
import java.lang.reflect.Method;
import java.lang.reflect.Modifier;
import java.nio.file.Files;
import java.nio.file.Path;
import java.util.ArrayList;
import java.util.Arrays;
import java.util.List;
import java.util.TreeSet;
import java.util.regex.Matcher;
import java.util.regex.Pattern;

/** The face, the rules of LANGUAGE.md that can be seen from outside, and the room that objects and calls take. */
public final class ShapeTest {
    private static final Check check = new Check();
    private static final String[] FACE = {
        "int feed(int,int,int,int,int)", "int end(int)", "int lexicon()", "int row()", "int fault(int)", "int tags(int)",
        "int number(int,int)", "int at(int)", "int readings()", "int chosen(int,int)", "int tied(int,int)",
        "int meaning(int,int)", "int same(int)", "int even()", "int lost()", "int mended(int)", "int could(int,int,int)",
        "int span(int,int,int)", "int added(int)", "int inPlace(int)", "int lacks(int)", "int over(int,int)",
        "int example(boolean)", "boolean untell(int)", "int later(int)", "int judge(int)", "int learnt(int,int)",
        "int image(int)", "int back(int)", "int about(int)"};

    public static void main(String[] args) throws IOException {
        Path root = Path.of(args.length > 0 ? args[0] : ".");
        face();
        classes();
        String source = Files.readString(root.resolve("src/main/java/WordKeys.java"));
        source(withoutComments(source));
        methodsAreShort(source);
        room();
        check.finish("ShapeTest");
    }

    private static void face() {
        Class<?> type = WordKeys.class;
        check.due("public and final", Modifier.isPublic(type.getModifiers()) && Modifier.isFinal(type.getModifiers()), true);
        TreeSet<String> methods = new TreeSet<>();
        for (Method method : type.getDeclaredMethods()) {
            if (!Modifier.isPrivate(method.getModifiers()) && !method.isSynthetic()) {
                methods.add(method.getReturnType() + " " + method.getName() + parameters(method.getParameterTypes()));
            }
        }
        check.due("the methods: " + methods, methods.equals(new TreeSet<>(Arrays.asList(FACE))), true);
        Constructor<?>[] constructors = type.getDeclaredConstructors();
        check.due("one constructor", constructors.length == 1 && constructors[0].getParameterCount() == 0, true);
        for (Field field : type.getDeclaredFields()) {
            boolean isNone = field.getName().equals("NONE");
            check.due("field " + field.getName(), Modifier.isPublic(field.getModifiers()), isNone);
            check.due("field " + field.getName() + " is private", Modifier.isPrivate(field.getModifiers()), !isNone);
        }
    }

    private static String parameters(Class<?>[] types) {
        List<String> names = new ArrayList<>();
        for (Class<?> type : types) {
            names.add(type.getName());
        }
        return "(" + String.join(",", names) + ")";
    }

    private static void classes() {
        Class<?>[] inside = WordKeys.class.getDeclaredClasses();
        check.due("some twelve classes", inside.length <= 11, true);
        TreeSet<String> faceNames = new TreeSet<>();
        for (String method : FACE) {
            faceNames.add(method.substring(method.indexOf(' ') + 1, method.indexOf('(')));
        }
        for (Class<?> type : inside) {
            check.due(type + " is static", Modifier.isStatic(type.getModifiers()), true);
            int fields = 0;
            for (Field field : type.getDeclaredFields()) {
                boolean isConstant = Modifier.isStatic(field.getModifiers());
                fields += isConstant ? 0 : 1;
                check.due(field + " is final if static", !isConstant || Modifier.isFinal(field.getModifiers()), true);
            }
            check.due(type + " has few fields", fields <= 20, true);
            for (Method method : type.getDeclaredMethods()) {
                check.due(method + " has a name of its own", faceNames.contains(method.getName()), false);
                check.due(method + " takes few parameters", method.getParameterCount() <= 7, true);
            }
        }
        for (Method method : WordKeys.class.getDeclaredMethods()) {
            boolean isPrivate = Modifier.isPrivate(method.getModifiers());
            check.due(method + " has a name of its own", isPrivate && faceNames.contains(method.getName()), false);
        }
    }

    private static String withoutComments(String source) {
        return source.replaceAll("(?s)/\\*.*?\\*/", " ").replaceAll("//[^\n]*", " ")
            .replaceAll("'(\\\\.|[^'\\\\])'", "' '").replaceAll("\"(\\\\.|[^\"\\\\])*\"", "\"\"");
    }

    private static void source(String code) {
        String[] forbidden = {"throw", "throws", "try", "catch", "finally", "synchronized", "assert", "volatile", "native",
            "Object", "Thread", "Random", "System\\.(?!arraycopy)\\w+", "Math\\.\\w+Exact", "hashCode", "toString",
            "MAX_VALUE", "MIN_VALUE", "interface", "extends", "implements", "yield", "var", "instanceof", "package"};
        for (String word : forbidden) {
            check.due("no " + word, Pattern.compile("\\b" + word + "\\b").matcher(code).find(), false);
        }
        check.due("no lambda", code.contains("->"), false);
        check.due("no method reference", code.contains("::"), false);
        check.due("no joining by +", Pattern.compile("\"\"\\s*\\+|\\+\\s*\"\"").matcher(code).find(), false);
        check.due("no library but Arrays", code.split("\\bimport\\b", -1).length - 1, 1);
        check.due("no endless loop", Pattern.compile("while\\s*\\(true\\)|for\\s*\\(\\s*;\\s*;").matcher(code).find(), false);
        loopsCount(code);
        check.due("no static initialiser", Pattern.compile("static\\s*\\{").matcher(code).find(), false);
    }

    /** Rule 9: a counter against a bound stands in the loop's own line. */
    private static void loopsCount(String code) {
        Matcher loop = Pattern.compile("\\b(for|while) \\((.*)\\) \\{").matcher(code);
        int loops = 0;
        while (loop.find()) {
            boolean isFor = loop.group(1).equals("for");
            String[] parts = loop.group(2).split(";", -1);
            String test = isFor && parts.length == 3 ? parts[1] : loop.group(2);
            loops++;
            check.due("a bound in: " + loop.group(), Pattern.compile(" [<>]=? ").matcher(test).find(), true);
        }
        check.due("all loops were found", loops, code.split("\\b(for|while)\\b", -1).length - 1);
    }

    private static void methodsAreShort(String source) {
        Matcher begin = Pattern.compile("(?m)^( +)(?!static final class|private static final class)[\\w\\[\\] ]+\\([^;{]*\\) \\{$")
            .matcher(source);
        int methods = 0;
        while (begin.find()) {
            int end = source.indexOf("\n" + begin.group(1) + "}", begin.start());
            long lines = source.substring(begin.start(), end).lines().count() + 1;
            methods++;
            check.due(begin.group().trim() + " has " + lines + " lines", lines <= 60, true);
        }
        check.due("methods were found: " + methods, methods > 80, true);
    }

    /** All objects and calls of a run live in one room: an object is small, and no call makes anything. */
    private static void room() {
        com.sun.management.ThreadMXBean bean = (com.sun.management.ThreadMXBean) ManagementFactory.getThreadMXBean();
        long thread = Thread.currentThread().getId();
        useAll(Check.with("kind a;kind b;word w is a;word v is a/b;word u is b or b\\a;"));
        long before = bean.getThreadAllocatedBytes(thread);
        WordKeys x = new WordKeys();
        long made = bean.getThreadAllocatedBytes(thread) - before;
        check.due("an object takes " + made + " bytes", made < 64000, true);
        Check.lexicon(x, "kind a;kind b;word w is a;word v is a/b;word u is b or b\\a;");
        Check.row(x, "v u");
        before = bean.getThreadAllocatedBytes(thread);
        useAll(x);
        made = bean.getThreadAllocatedBytes(thread) - before;
        check.due("calls take " + made + " bytes", made < 1000, true);
    }

    private static void useAll(WordKeys x) {
        x.feed(0x7720752e, 0, 0, 0, 0);
        x.end(3);
        x.row();
        x.fault(0);
        x.readings();
        x.meaning(0, 0);
        x.same(0);
        x.even();
        x.lost();
        x.mended(0);
        x.could(0, 2, 0);
        x.span(0, 0, 0);
        x.added(0);
        x.inPlace(0);
        x.lacks(0);
        x.over(0, 0);
        x.example(true);
        x.untell(0);
        x.later(1);
        x.judge(0);
        x.learnt(-1, 0);
        x.image(0);
        x.back(0);
        x.about(0);
    }
}
