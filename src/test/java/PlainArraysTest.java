import java.util.HashMap;
import java.util.Map;
import java.util.Random;
import java.util.TreeMap;

/**
 * Functions made by chance, always the same ones, are run by SoleArrays and by a model that works on the bare text
 * and makes a new row or table for every update; results, exceptions and counts must be the same.
 */
public final class PlainArraysTest {
    private static final int OBJECTS = 5000;

    public static void main(String[] args) {
        Random random = new Random(20261115);
        int runs = 0;
        Map<String, Integer> ends = new TreeMap<>();
        for (int i = 0; i < OBJECTS; i++) {
            runs += oneObject(random, ends);
        }
        System.out.println(runs + " runs, which threw " + ends);
        Trial.due("kinds of ends that were seen", ends.size(), 5);
        Trial.end();
    }

    private static int oneObject(Random random, Map<String, Integer> ends) {
        SoleArrays x = new SoleArrays();
        Model model = new Model();
        int runs = 0;
        int calls = 0;
        for (char name = 'A'; name <= 'D'; name++) {
            String text = new Maker(random, model.texts).function(name);
            calls += text.length() + 1;
            if (text.length() > 150 || calls > 400 || !defines(x, text)) {
                continue;
            }
            model.define(text);
            for (int i = 0; i < 4 && model.takesNumbers(name); i++) {
                compare(x, model, name, random, ends);
                runs++;
            }
        }
        return runs;
    }

    private static boolean defines(SoleArrays x, String text) {
        for (int i = 0; i < text.length(); i++) {
            x.type(text.charAt(i));
        }
        try {
            x.define();
            return true;
        } catch (IllegalArgumentException e) {
            // Only what lies too deep is made ill.
            Trial.due("depth of " + text, x.place() < text.length() ? 1 : 0, 1);
            return false;
        } catch (IllegalStateException e) {
            Trial.due("a function that should be good is wrong: " + text, x.place(), SoleArrays.NONE);
            return false;
        }
    }

    private static void compare(SoleArrays x, Model model, char name, Random random, Map<String, Integer> ends) {
        long[] arguments = new long[4];
        for (int k = 0; k < 4; k++) {
            arguments[k] = random.nextInt(20) == 0 ? random.nextLong() : random.nextInt(9) - 1;
            x.argument(k, arguments[k]);
        }
        String what = model.texts.get(name) + " in " + model.texts.values();
        String thrown = Trial.NOTHING;
        try {
            x.run(name);
        } catch (RuntimeException e) {
            thrown = e.getClass().getSimpleName();
        }
        String due = model.run(name, arguments);
        ends.merge(due, 1, Integer::sum);
        Trial.dueThrown(what, thrown, due);
        for (int i = 0; i < 4; i++) {
            Trial.due("counted(" + i + ") of " + what, x.counted(i), model.counts[i]);
        }
        sameResult(x, model.result, what);
    }

    private static void sameResult(SoleArrays x, Object result, String what) {
        if (result instanceof Table table) {
            Trial.due("size(0) of " + what, x.size(0), table.rows.length);
            Trial.due("size(1) of " + what, x.size(1), table.columns);
            for (int i = 0; i < table.rows.length; i++) {
                for (int j = 0; j < table.columns; j++) {
                    Trial.due("cell of " + what, x.cell(i, j), table.rows[i][j]);
                }
            }
        } else if (result instanceof long[] row) {
            for (int i = 0; i < row.length; i++) {
                Trial.due("cell of " + what, x.cell(i, 0), row[i]);
            }
            Trial.due("size(0) of " + what, x.size(0), row.length);
        } else {
            Trial.due("value of " + what, x.value(), result == null ? 0 : (Long) result);
        }
        int kind = result == null ? SoleArrays.NONE : result instanceof Long ? 0 : result instanceof long[] ? 1 : 2;
        Trial.due("kind of " + what, x.kind(), kind);
    }

    /** A table in the model, which knows its columns also if it has no rows. */
    private record Table(long[][] rows, int columns) {
    }

    /** Works functions out on their bare texts; no row or table is ever changed. */
    private static final class Model {
        final Map<Character, String> texts = new TreeMap<>();
        final int[] counts = new int[4];
        Object result = null;
        private int there = 0;

        void define(String text) {
            texts.put(text.charAt(0), text);
        }

        boolean takesNumbers(char name) {
            String text = texts.get(name);
            String head = text.substring(0, text.indexOf(')'));
            return head.indexOf('1') < 0 && head.indexOf('2') < 0;
        }

        String run(char name, long[] arguments) {
            counts[0] = 0;
            counts[1] = 0;
            counts[2] = 0;
            counts[3] = 0;
            there = 0;
            result = null;
            Object[] values = new Object[4];
            for (int k = 0; k < 4; k++) {
                values[k] = arguments[k];
            }
            try {
                result = call(name, values, 1);
                return Trial.NOTHING;
            } catch (RuntimeException e) {
                return e.getClass().getSimpleName();
            }
        }

        private Object call(char name, Object[] values, int calls) {
            if (calls == 9) {
                throw new UnsupportedOperationException();
            }
            String text = texts.get(name);
            Map<Character, Object> bound = new HashMap<>();
            int at = 2;
            for (int k = 0; text.charAt(at) != ')'; k++) {
                bound.put(text.charAt(at), values[k]);
                at += text.charAt(at + 2) == ',' ? 3 : 2;
            }
            return new Walk(text, at + 3, bound, calls).expression(true);
        }

        private Object made(Object array) {
            if (there == 8) {
                throw new UnsupportedOperationException();
            }
            there++;
            counts[1]++;
            counts[2] = Math.max(counts[2], there);
            return array;
        }

        /** Goes through a text from left to right; what isn't live is passed over. */
        private final class Walk {
            private final String text;
            private final Map<Character, Object> bound;
            private final int calls;
            private int at;

            Walk(String text, int at, Map<Character, Object> bound, int calls) {
                this.text = text;
                this.at = at;
                this.bound = bound;
                this.calls = calls;
            }

            private char take() {
                return text.charAt(at++);
            }

            private long number(boolean live) {
                Object value = expression(live);
                return live ? (Long) value : 0;
            }

            Object expression(boolean live) {
                if (live && counts[0]++ == 400) {
                    counts[0] = 400;
                    throw new UnsupportedOperationException();
                }
                char c = take();
                if (c >= '0' && c <= '9') {
                    return digits(c - '0');
                }
                if (c >= 'A' && c <= 'H') {
                    return parts(c, live);
                }
                if (c >= 'a') {
                    return c == '~' ? giveUp(live) : fromVariable(c, live);
                }
                switch (c) {
                    case '(':
                        return operation(live);
                    case '?':
                        return choice(live);
                    case '&':
                        return binding(live);
                    case '@':
                        long size = number(live);
                        return live ? made(new long[checked(size, 1)]) : null;
                    case '%':
                        long rows = number(live);
                        at++;
                        long columns = number(live);
                        return live ? made(table(rows, columns)) : null;
                    default:
                        return ofVariable(c, bound.get(take()), live);
                }
            }

            private Object digits(long first) {
                long value = first;
                while (at < text.length() && Character.isDigit(text.charAt(at))) {
                    value = value * 10 + take() - '0';
                }
                return value;
            }

            private int checked(long rows, long columns) {
                if (rows < 0 || columns < 0) {
                    throw new IllegalStateException();
                }
                if (rows > 40 || columns > 40 || rows * columns > 40) {
                    throw new UnsupportedOperationException();
                }
                return (int) rows;
            }

            private Table table(long rows, long columns) {
                return new Table(new long[checked(rows, columns)][(int) columns], (int) columns);
            }

            private Object giveUp(boolean live) {
                at += 2;
                there -= live ? 1 : 0;
                return expression(live);
            }

            private Object operation(boolean live) {
                long left = number(live);
                char sign = take();
                long right = number(live);
                at++;
                if (!live) {
                    return null;
                }
                return sign == '+' ? left + right : sign == '-' ? left - right : sign == '*' ? left * right
                        : sign == '/' ? left / right : (sign == '<' ? left < right : left == right) ? 1L : 0L;
            }

            private Object choice(boolean live) {
                boolean first = number(live) != 0;
                at++;
                Object one = expression(live && first);
                at++;
                Object other = expression(live && !first);
                at++;
                return first ? one : other;
            }

            private Object binding(boolean live) {
                char v = take();
                at++;
                Object value = expression(live);
                at++;
                if (live) {
                    bound.put(v, value);
                }
                return expression(live);
            }

            private Object ofVariable(char sign, Object value, boolean live) {
                if (!live) {
                    return null;
                }
                if (sign == '$') {
                    return made(value);
                }
                if (value instanceof Table table) {
                    return (long) (sign == '#' ? table.rows.length : table.columns);
                }
                return (long) ((long[]) value).length;
            }

            private Object fromVariable(char v, boolean live) {
                char open = at < text.length() ? text.charAt(at) : ' ';
                if (open != '[' && open != '{') {
                    return bound.get(v);
                }
                long[] numbers = new long[3];
                int count = 0;
                do {
                    at++;
                    numbers[count++] = number(live);
                } while (text.charAt(at) == ',');
                at++;
                if (!live) {
                    return null;
                }
                return open == '[' ? read(bound.get(v), numbers) : updated(bound.get(v), numbers, count);
            }

            private int index(long i, int size) {
                if (i < 0 || i >= size) {
                    throw new IndexOutOfBoundsException();
                }
                return (int) i;
            }

            private Object read(Object value, long[] numbers) {
                if (value instanceof long[] row) {
                    return row[index(numbers[0], row.length)];
                }
                Table table = (Table) value;
                return table.rows[index(numbers[0], table.rows.length)][index(numbers[1], table.columns)];
            }

            private Object updated(Object value, long[] numbers, int count) {
                Object other = value instanceof long[] row ? updatedRow(row, numbers[0], numbers[count - 1])
                        : updatedTable((Table) value, numbers);
                counts[3]++;
                return other;
            }

            private long[] updatedRow(long[] row, long i, long number) {
                long[] other = row.clone();
                other[index(i, row.length)] = number;
                return other;
            }

            private Table updatedTable(Table table, long[] numbers) {
                long[][] other = table.rows.clone();
                int i = index(numbers[0], other.length);
                other[i] = updatedRow(other[i], numbers[1], numbers[2]);
                return new Table(other, table.columns);
            }

            private Object parts(char name, boolean live) {
                Object[] values = new Object[4];
                int count = 0;
                at++;
                while (text.charAt(at) != ')') {
                    at += text.charAt(at) == ',' ? 1 : 0;
                    values[count++] = expression(live);
                }
                at++;
                return live ? call(name, values, calls + 1) : null;
            }
        }
    }
}
