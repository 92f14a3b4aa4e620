import java.util.ArrayDeque;
import java.util.Deque;
import java.util.Map;
import java.util.Random;
import java.util.TreeMap;
import java.util.TreeSet;

/**
 * Texts made by chance, always the same ones, are defined by SoleArrays and judged by a model of the section 'Terms':
 * a stack of what is still due finds where a text is ill, a walk over the bare text where it is wrong.
 */
public final class PlainPlacesTest {
    private static final int OBJECTS = 8000;
    private static final int MOST_CALLS = 512;
    private static final String SIGNS = "ABCDabcmnst0129()+-*/<=?|&;@%,[]{}#^$~";
    private static final String ILL = "ill";
    private static final String WRONG = "wrong";
    private static final String GOOD = "good";

    private final Random random;
    private final Map<String, Integer> seen = new TreeMap<>();
    // Of the object on trial:
    private SoleArrays x;
    private Map<Character, String> texts;
    private int calls;

    private PlainPlacesTest(Random random) {
        this.random = random;
    }

    public static void main(String[] args) {
        PlainPlacesTest test = new PlainPlacesTest(new Random(15112026));
        for (int i = 0; i < OBJECTS; i++) {
            test.changedFunctions();
            test.grownTexts();
        }
        test.everyCharacterAtEveryPlace();
        System.out.println("texts that were " + test.seen);
        Trial.due("kinds of ends that were seen", test.seen.size(), 3);
        Trial.end();
    }

    private void newObject() {
        x = new SoleArrays();
        texts = new TreeMap<>();
        calls = 0;
    }

    /** Good functions, and what becomes of them if a few of their characters are others. */
    private void changedFunctions() {
        newObject();
        for (char name = 'A'; name <= 'D'; name++) {
            String text = new Maker(random, texts).function(name);
            tryOut(changed(text));
            tryOut(changed(changed(text)));
            tryOut(text);
        }
        tryOut(changed(texts.getOrDefault('A', "A()0=1")));
    }

    private String changed(String text) {
        int at = random.nextInt(text.length());
        String before = text.substring(0, at);
        String after = text.substring(at + 1);
        char c = text.charAt(at);
        switch (random.nextInt(9)) {
            case 0:
                return before + after;
            case 1:
                return before + c + sign(SIGNS) + after;
            case 2:
                return before + sign(SIGNS) + after;
            case 3:
                return before + "~" + sign("abcst") + ";" + c + after;
            case 4:
                return before + "$" + c + after;
            case 5:
                return text.replaceFirst("~[a-t];", "");
            default:
                String alike = Character.isDigit(c) ? "0129" : Character.isLowerCase(c) ? "abcmnst" : "ABCD@%#^$";
                return before + sign(alike) + after;
        }
    }

    private char sign(String signs) {
        return signs.charAt(random.nextInt(signs.length()));
    }

    /** Texts that grow by characters that can stand, until they are whole or too long. */
    private void grownTexts() {
        newObject();
        for (int i = 0; i < 4; i++) {
            String head = random.nextBoolean() ? "(a1,b2,n0)" : "(a1)";
            String text = (char) ('A' + i) + head + random.nextInt(3) + "=";
            for (int k = 0; k < 400 && text.length() < 60 && illPlace(text) == text.length(); k++) {
                String longer = text + sign(SIGNS);
                int place = illPlace(longer);
                text = place == SoleArrays.NONE || place == longer.length() ? longer : text;
            }
            tryOut(text);
        }
    }

    private void everyCharacterAtEveryPlace() {
        String[] samples = {"A(a0,b1,c2,d0)0=~b;~c;9999", "B(a1,t2)2=&n=(#a+^t);~a;t{0,n,1}",
            "C(a0)1=?((a-1)<(a*2))(@a|@(a/2))", "D(a2)0=&n=a[0,0];&b=$a;~a;~b;n",
            "E(a0,b1)1=E(a,b{12,b[0]})", "F(n0)0=((((((n+1)+F(1))+1)+1)+1)+%1,1)"};
        for (String sample : samples) {
            for (int at = 0; at < sample.length(); at++) {
                for (char c = '!'; c <= '~'; c++) {
                    newObject();
                    tryOut(sample.substring(0, at) + c + sample.substring(at + 1));
                }
            }
        }
    }

    private void tryOut(String text) {
        String typed = random.nextInt(4) == 0 ? text.replace("=", " = ").replace("(", "( ") : text;
        if (typed.length() > 150 || calls + typed.length() + 2 > MOST_CALLS) {
            return;
        }
        for (int i = 0; i < typed.length(); i++) {
            x.type(typed.charAt(i));
        }
        calls += typed.length() + 2;
        String end = GOOD;
        int functions = texts.size() + 1;
        try {
            functions = x.define();
        } catch (IllegalArgumentException e) {
            end = ILL;
        } catch (IllegalStateException e) {
            end = WRONG;
        }
        int place = illPlace(text);
        String due = place != SoleArrays.NONE ? ILL : GOOD;
        if (due.equals(GOOD)) {
            place = new Look(text, texts).wrongPlace();
            due = place != SoleArrays.NONE ? WRONG : GOOD;
        }
        seen.merge(due, 1, Integer::sum);
        String what = typed + " among " + texts.values();
        Trial.dueThrown("define of " + what, end, due);
        Trial.due("place of " + what, x.place(), place);
        if (due.equals(GOOD)) {
            texts.put(text.charAt(0), text);
        }
        Trial.due("define of " + what, functions, due.equals(GOOD) ? texts.size() : functions);
    }

    /** Something that is due: which kind, how many more of it there may be, and how deep it lies. */
    private record Due(char kind, int more, int depth) {
    }

    private static final char EXPRESSION = 'e';
    private static final char PARAMETER = 'p';
    private static final char MORE_PARAMETERS = 'q';
    private static final char MORE_DIGITS = 'd';
    private static final char BEHIND_VARIABLE = 'b';
    private static final char FIRST_PART = 'f';
    private static final char MORE_PARTS = 'm';
    private static final char VARIABLE = 'v';
    private static final char TYPE = 't';
    private static final char NAME = 'n';
    private static final char OPERATION = 'o';

    /** The first place where a character can't stand, or NONE. Signs that are due stand for themselves. */
    private static int illPlace(String text) {
        Deque<Due> stack = new ArrayDeque<>();
        push(stack, 1, NAME, '(', PARAMETER, TYPE, '=', EXPRESSION);
        for (int at = 0; at < text.length(); at++) {
            char c = text.charAt(at);
            while (!stack.isEmpty() && isPassedOver(stack.peek(), c)) {
                stack.pop();
            }
            if (stack.isEmpty() || !stands(stack, stack.pop(), c)) {
                return at;
            }
        }
        while (!stack.isEmpty() && isPassedOver(stack.peek(), ' ')) {
            stack.pop();
        }
        return stack.isEmpty() ? SoleArrays.NONE : text.length();
    }

    private static void push(Deque<Due> stack, int depth, char... kinds) {
        for (int i = kinds.length - 1; i >= 0; i--) {
            stack.push(new Due(kinds[i], 3, depth));
        }
    }

    private static boolean isPassedOver(Due due, char c) {
        boolean noDigit = due.more == 0 || c < '0' || c > '9';
        return due.kind == MORE_DIGITS && noDigit || due.kind == BEHIND_VARIABLE && c != '[' && c != '{';
    }

    /** Whether c can stand where this is due; what is due behind it is put on the stack. */
    private static boolean stands(Deque<Due> stack, Due due, char c) {
        switch (due.kind) {
            case NAME:
                return c >= 'A' && c <= 'H';
            case VARIABLE:
                return c >= 'a' && c <= 't';
            case TYPE:
                return c >= '0' && c <= '2';
            case OPERATION:
                return "+-*/<=".indexOf(c) >= 0;
            case MORE_DIGITS:
                stack.push(new Due(MORE_DIGITS, due.more - 1, due.depth));
                return true;
            case PARAMETER:
                stack.push(new Due(MORE_PARAMETERS, 3, 0));
                stack.push(new Due(TYPE, 0, 0));
                return endsList(stack, c, 2) || c >= 'a' && c <= 't';
            case MORE_PARAMETERS:
                stack.push(new Due(MORE_PARAMETERS, due.more - 1, 0));
                push(stack, 0, VARIABLE, TYPE);
                return endsList(stack, c, 3) || c == ',' && due.more > 0;
            case FIRST_PART:
                stack.push(new Due(MORE_PARTS, 3, due.depth));
                return endsList(stack, c, 1) || begins(stack, due.depth, c);
            case MORE_PARTS:
                stack.push(new Due(MORE_PARTS, due.more - 1, due.depth));
                stack.push(new Due(EXPRESSION, 0, due.depth));
                return endsList(stack, c, 2) || c == ',' && due.more > 0;
            case BEHIND_VARIABLE:
                if (c == '[') {
                    push(stack, due.depth + 1, EXPRESSION, ']');
                } else {
                    push(stack, due.depth + 1, EXPRESSION, ',', EXPRESSION, '}');
                }
                return true;
            case EXPRESSION:
                return begins(stack, due.depth, c);
            default:
                return c == due.kind || mayGoOn(stack, due, c);
        }
    }

    /** A list ends with this character: then what was put on the stack for its next part isn't due. */
    private static boolean endsList(Deque<Due> stack, char c, int put) {
        if (c != ')') {
            return false;
        }
        for (int i = 0; i < put; i++) {
            stack.pop();
        }
        return true;
    }

    /** A reading or an update may have one part more than it must. */
    private static boolean mayGoOn(Deque<Due> stack, Due due, char c) {
        if (c != ',' || due.kind != ']' && due.kind != '}' || due.more == 0) {
            return false;
        }
        stack.push(new Due(due.kind, 0, due.depth));
        stack.push(new Due(EXPRESSION, 0, due.depth));
        return true;
    }

    private static boolean begins(Deque<Due> stack, int depth, char c) {
        if (depth > 8) {
            return false;
        }
        if (c >= '0' && c <= '9') {
            push(stack, depth, MORE_DIGITS);
        } else if (c >= 'a' && c <= 't') {
            push(stack, depth, BEHIND_VARIABLE);
        } else if (c >= 'A' && c <= 'H') {
            push(stack, depth + 1, '(', FIRST_PART);
        } else if ("#^$".indexOf(c) >= 0) {
            push(stack, depth, VARIABLE);
        } else if ("(?&@%~".indexOf(c) >= 0) {
            pushParts(stack, depth + 1, c);
        } else {
            return false;
        }
        return true;
    }

    private static void pushParts(Deque<Due> stack, int depth, char c) {
        switch (c) {
            case '(':
                push(stack, depth, EXPRESSION, OPERATION, EXPRESSION, ')');
                break;
            case '?':
                push(stack, depth, EXPRESSION, '(', EXPRESSION, '|', EXPRESSION, ')');
                break;
            case '&':
                push(stack, depth, VARIABLE, '=', EXPRESSION, ';', EXPRESSION);
                break;
            case '@':
                push(stack, depth, EXPRESSION);
                break;
            case '%':
                push(stack, depth, EXPRESSION, ',', EXPRESSION);
                break;
            default:
                push(stack, depth, VARIABLE, ';', EXPRESSION);
        }
    }

    /** Looks at a text that isn't ill. Ends with a Wrong at the first place that is. */
    private static final class Look {
        private static final int ANY = -1;

        private final String text;
        private final Map<Character, String> texts;
        private final Map<Character, Integer> bound = new TreeMap<>();
        private TreeSet<Character> owned = new TreeSet<>();
        private int at = 0;

        Look(String text, Map<Character, String> texts) {
            this.text = text;
            this.texts = texts;
        }

        private static final class Wrong extends RuntimeException {
            private static final long serialVersionUID = 1;
            final int place;

            Wrong(int place) {
                this.place = place;
            }
        }

        int wrongPlace() {
            try {
                function();
                return SoleArrays.NONE;
            } catch (Wrong e) {
                return e.place;
            }
        }

        private static void wrongIf(boolean wrong, int place) {
            if (wrong) {
                throw new Wrong(place);
            }
        }

        private void function() {
            wrongIf(texts.containsKey(text.charAt(0)), 0);
            for (at = 2; text.charAt(at) != ')'; at += text.charAt(at + 2) == ',' ? 3 : 2) {
                wrongIf(bound.containsKey(text.charAt(at)), at);
                bind(text.charAt(at), text.charAt(at + 1) - '0');
            }
            int result = text.charAt(at + 1) - '0';
            at += 3;
            part(result, true);
            for (int place = 2; text.charAt(place) != ')'; place++) {
                wrongIf(owned.contains(text.charAt(place)), place);
            }
        }

        private void bind(char v, int type) {
            bound.put(v, type);
            if (type > 0) {
                owned.add(v);
            }
        }

        /** Looks at the part that begins here and goes behind it; if it isn't live it only goes. */
        private int part(int wanted, boolean live) {
            int beginning = at;
            int type = expression(live);
            wrongIf(live && wanted != ANY && type != wanted, beginning);
            return type;
        }

        private int expression(boolean live) {
            char c = text.charAt(at++);
            if (Character.isDigit(c)) {
                while (at < text.length() && Character.isDigit(text.charAt(at))) {
                    at++;
                }
                return 0;
            }
            if (c >= 'a' && c <= 't') {
                return fromVariable(at - 1, live);
            }
            if (c >= 'A' && c <= 'H') {
                return call(at - 1, live);
            }
            switch (c) {
                case '(':
                    part(0, live);
                    at++;
                    part(0, live);
                    at++;
                    return 0;
                case '?':
                    return choice(at - 1, live);
                case '&':
                    return binding(live);
                case '@':
                    part(0, live);
                    return 1;
                case '%':
                    part(0, live);
                    at++;
                    part(0, live);
                    return 2;
                case '~':
                    variable(at, live, "12", true);
                    at += 2;
                    return part(ANY, live);
                default:
                    int type = variable(at++, live, c == '^' ? "2" : "12", false);
                    return c == '$' ? type : 0;
            }
        }

        private int variable(int place, boolean live, String wanted, boolean usedUp) {
            if (!live) {
                return 0;
            }
            char v = text.charAt(place);
            Integer type = bound.get(v);
            wrongIf(type == null, place);
            wrongIf(type > 0 && !owned.contains(v), place);
            wrongIf(wanted.indexOf('0' + type) < 0, place);
            if (usedUp) {
                owned.remove(v);
            }
            return type;
        }

        private int fromVariable(int place, boolean live) {
            char open = at < text.length() ? text.charAt(at) : ' ';
            if (open != '[' && open != '{') {
                return variable(place, live, "012", true);
            }
            int parts = 0;
            do {
                at++;
                part(0, live);
                parts++;
            } while (text.charAt(at) == ',');
            at++;
            boolean row = parts == (open == '[' ? 1 : 2);
            int type = variable(place, live, row ? "1" : "2", open == '{');
            return open == '[' ? 0 : type;
        }

        private int choice(int place, boolean live) {
            part(0, live);
            at++;
            TreeSet<Character> before = new TreeSet<>(owned);
            int type = part(ANY, live);
            at++;
            TreeSet<Character> after = owned;
            owned = before;
            int other = part(ANY, live);
            at++;
            wrongIf(live && (type != other || !owned.equals(after)), place);
            return type;
        }

        private int binding(boolean live) {
            int place = at;
            char v = text.charAt(place);
            wrongIf(live && bound.containsKey(v), place);
            at += 2;
            int first = part(ANY, live);
            at++;
            if (live) {
                bind(v, first);
            }
            int type = part(ANY, live);
            wrongIf(live && owned.contains(v), place);
            if (live) {
                bound.remove(v);
            }
            return type;
        }

        private int call(int place, boolean live) {
            int first = at + 1;
            int parts = goThroughParts("", false);
            if (!live) {
                return 0;
            }
            char name = text.charAt(place);
            String callee = name == text.charAt(0) ? text : texts.get(name);
            wrongIf(callee == null, place);
            String types = callee.substring(2, callee.indexOf(')')).replaceAll("[^0-2]", "");
            wrongIf(types.length() != parts, place);
            at = first - 1;
            goThroughParts(types, true);
            return callee.charAt(callee.indexOf(')') + 1) - '0';
        }

        private int goThroughParts(String types, boolean live) {
            int parts = 0;
            at++;
            while (text.charAt(at) != ')') {
                at += text.charAt(at) == ',' ? 1 : 0;
                part(live ? types.charAt(parts) - '0' : ANY, live);
                parts++;
            }
            at++;
            return parts;
        }
    }
}
