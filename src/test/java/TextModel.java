import java.util.ArrayDeque;
import java.util.ArrayList;
import java.util.Deque;
import java.util.List;

/** The document's texts as a row of states: TOKEN by TOKEN, what can stand next. No part of it calls itself. */
final class TextModel {
    private static final List<String> THEMSELVES = List.of("kind", "goal", "word", "is", "or");
    private static final String NO_TOKEN = "";

    private enum Next { LINE, KIND_NAME, WORD_NAME, IS, UNIT, BEHIND_UNIT }

    /** A T that is not all there: the T of the line, or one behind an open bracket. */
    private static final class Part {
        Model.T ahead;
        char sign;
        Model.T behind;

        Model.T whole() {
            return sign == 0 ? ahead : new Model.T(sign, ahead, behind);
        }
    }

    final List<String> kinds = new ArrayList<>();
    final List<String> words = new ArrayList<>();
    final List<List<Model.T>> tags = new ArrayList<>();
    final List<Integer> row = new ArrayList<>();
    Model.T goal;
    int fault;
    int place = -1;

    private final List<String> tokens = new ArrayList<>();
    private final List<Integer> places = new ArrayList<>();
    private final Deque<Part> parts = new ArrayDeque<>();
    private Next next = Next.LINE;
    private boolean isGoalLine;
    private int kindsOfTag;

    static TextModel lexicon(String text) {
        TextModel model = new TextModel();
        model.part(text);
        for (int i = 0; i < model.tokens.size() && model.fault == 0; i++) {
            model.step(model.tokens.get(i), model.places.get(i));
        }
        if (model.next != Next.LINE) {
            model.refuse(2, text.length());
        }
        return model;
    }

    static TextModel row(String text, List<String> words) {
        TextModel model = new TextModel();
        model.part(text);
        for (int i = 0; i < model.tokens.size() && model.fault == 0; i++) {
            String token = model.tokens.get(i);
            if (token.equals(NO_TOKEN)) {
                model.refuse(1, model.places.get(i));
            } else if (!isName(token) || i == 8) {
                model.refuse(2, model.places.get(i));
            } else if (!words.contains(token)) {
                model.refuse(5, model.places.get(i));
            } else {
                model.row.add(words.indexOf(token));
            }
        }
        return model;
    }

    private void part(String text) {
        int at = 0;
        while (at < text.length()) {
            int length = 0;
            while (at + length < text.length() && length < 8 && isLetter(text.charAt(at + length))) {
                length++;
            }
            char sign = text.charAt(at);
            if (length > 0) {
                add(text.substring(at, at + length), at);
            } else if (";()/\\".indexOf(sign) >= 0) {
                add("" + sign, at);
            } else if (sign != 32 && sign != 10) {
                add(NO_TOKEN, at);
            }
            at += Math.max(length, 1);
        }
    }

    private void add(String token, int at) {
        tokens.add(token);
        places.add(at);
    }

    private static boolean isLetter(char sign) {
        return sign >= 'a' && sign <= 'z';
    }

    private static boolean isName(String token) {
        return !token.isEmpty() && isLetter(token.charAt(0)) && !THEMSELVES.contains(token);
    }

    private void refuse(int number, int at) {
        if (fault == 0) {
            fault = number;
            place = at;
        }
    }

    private void step(String token, int at) {
        int found = token.equals(NO_TOKEN) ? 1 : take(token);
        if (found != 0) {
            refuse(found, at);
        }
    }

    /** The FAULT of the next TOKEN, or 0. */
    private int take(String token) {
        switch (next) {
            case LINE: return takeFirst(token);
            case KIND_NAME: return takeNew(token, kinds, Next.BEHIND_UNIT);
            case WORD_NAME: return takeNew(token, words, Next.IS);
            case IS: return takeIs(token);
            case UNIT: return takeUnit(token);
            default: return takeBehindUnit(token);
        }
    }

    private int takeFirst(String token) {
        parts.clear();
        isGoalLine = token.equals("goal");
        if (token.equals("kind") && kinds.size() < 5) {
            next = Next.KIND_NAME;
        } else if (isGoalLine && goal == null) {
            beginTag();
        } else if (token.equals("word") && words.size() < 12) {
            next = Next.WORD_NAME;
        } else {
            return 2;
        }
        return 0;
    }

    private int takeNew(String token, List<String> names, Next then) {
        if (!isName(token)) {
            return 2;
        }
        if (kinds.contains(token) || words.contains(token)) {
            return 3;
        }
        names.add(token);
        next = then;
        return 0;
    }

    private int takeIs(String token) {
        if (!token.equals("is")) {
            return 2;
        }
        tags.add(new ArrayList<>());
        beginTag();
        return 0;
    }

    private void beginTag() {
        parts.push(new Part());
        kindsOfTag = 0;
        next = Next.UNIT;
    }

    private int takeUnit(String token) {
        if (token.equals("(") && parts.size() - 1 <= 3) {
            parts.push(new Part());
            return 0;
        }
        if (!isName(token) || kindsOfTag == 4) {
            return 2;
        }
        if (!kinds.contains(token)) {
            return 5;
        }
        kindsOfTag++;
        put(new Model.T(kinds.indexOf(token)));
        return 0;
    }

    private void put(Model.T unit) {
        Part part = parts.peek();
        if (part.ahead == null) {
            part.ahead = unit;
        } else {
            part.behind = unit;
        }
        next = Next.BEHIND_UNIT;
    }

    private int takeBehindUnit(String token) {
        boolean isWithin = parts.size() > 1;
        boolean isTag = parts.size() == 1;
        if ((token.equals("/") || token.equals("\\")) && !parts.isEmpty() && parts.peek().sign == 0) {
            parts.peek().sign = token.charAt(0);
            next = Next.UNIT;
        } else if (token.equals(")") && isWithin) {
            put(parts.pop().whole());
        } else if (token.equals(";") && !isWithin) {
            endTag(isTag);
            next = Next.LINE;
        } else if (token.equals("or") && isTag && !isGoalLine && tags.get(tags.size() - 1).size() < 2) {
            endTag(true);
            beginTag();
        } else {
            return 2;
        }
        return 0;
    }

    private void endTag(boolean isTag) {
        if (!isTag) {
            return;
        }
        Model.T tag = parts.pop().whole();
        if (isGoalLine) {
            goal = tag;
        } else {
            tags.get(tags.size() - 1).add(tag);
        }
    }
}
