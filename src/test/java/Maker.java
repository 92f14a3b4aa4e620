import java.util.Map;
import java.util.Random;
import java.util.Set;
import java.util.TreeMap;

/** Makes functions by chance that are neither wrong nor, but for depth and length, ill; texts has those that are defined. */
final class Maker {
    private final Random random;
    private final Map<Character, String> texts;
    private final Map<Character, Integer> types = new TreeMap<>();
    private final Map<Character, Integer> owned = new TreeMap<>();
    private String self = "";

    Maker(Random random, Map<Character, String> texts) {
        this.random = random;
        this.texts = texts;
    }

    String function(char name) {
        StringBuilder head = new StringBuilder().append(name).append('(');
        int count = random.nextInt(5);
        for (int i = 0; i < count; i++) {
            char v = "abmn".charAt(i);
            int type = random.nextInt(4) == 0 ? 1 + random.nextInt(2) : 0;
            bind(v, type);
            head.append(i == 0 ? "" : ",").append(v).append(type);
        }
        int result = random.nextInt(3);
        self = head.append(')').append(result).append('=').toString();
        String body = expression(result, 6);
        return self + givingUp(owned, body);
    }

    private void bind(char v, int type) {
        types.put(v, type);
        if (type > 0) {
            owned.put(v, type);
        }
    }

    /** The expression, and then what is left is given up; s is bound nowhere else, so it is free here. */
    private String givingUp(Map<Character, Integer> left, String expression) {
        if (left.isEmpty()) {
            return expression;
        }
        StringBuilder all = new StringBuilder("&s=").append(expression).append(';');
        for (char v : left.keySet()) {
            all.append('~').append(v).append(';');
        }
        return all.append('s').toString();
    }

    private String expression(int type, int room) {
        int form = random.nextInt(room < 2 ? 2 : 9);
        if (room > 1 && form == 2) {
            return choice(type, room);
        }
        if (room > 1 && form == 3) {
            return binding(type, room);
        }
        if (room > 1 && form == 4) {
            String call = call(type, room);
            if (call != null) {
                return call;
            }
        }
        return type == 0 ? number(room) : array(type, room);
    }

    private String number(int room) {
        Character v = pick(0, false);
        Character row = pick(1, true);
        Character table = pick(2, true);
        switch (random.nextInt(room < 2 ? 3 : 7)) {
            case 0:
                return "" + random.nextInt(random.nextInt(8) == 0 ? 45 : 4);
            case 1:
                return v == null ? "1" : "" + v;
            case 2:
                return row == null ? table == null ? "2" : "^" + table : "#" + row;
            case 3:
                return row == null ? "0" : row + "[" + keeping(row, room - 1) + "]";
            case 4:
                return table == null ? "3" : table + "[" + keeping(table, room - 1) + "," + keeping(table, room - 1) + "]";
            default:
                String left = expression(0, room - 1);
                return "(" + left + "+-*/<=".charAt(random.nextInt(6)) + expression(0, room - 1) + ")";
        }
    }

    /** A number that leaves v owned. */
    private String keeping(char v, int room) {
        Integer type = owned.remove(v);
        String number = expression(0, Math.min(room, 2));
        owned.put(v, type);
        return number;
    }

    private String array(int type, int room) {
        Character v = pick(type, true);
        int form = random.nextInt(6);
        if (v != null && form == 0) {
            return "$" + v;
        }
        if (v != null && form == 1) {
            owned.remove(v);
            return "" + v;
        }
        if (v != null && form < 5 && room > 1) {
            String first = keeping(v, room - 1);
            String second = type == 2 ? keeping(v, room - 1) + "," : "";
            String text = v + "{" + first + "," + second + keeping(v, room - 1) + "}";
            owned.remove(v);
            return text;
        }
        String size = expression(0, Math.min(room - 1, 2));
        return type == 1 ? "@" + size : "%" + size + "," + expression(0, Math.min(room - 1, 2));
    }

    private String choice(int type, int room) {
        String condition = expression(0, 2);
        Map<Character, Integer> before = new TreeMap<>(owned);
        String first = expression(type, room - 1);
        Map<Character, Integer> afterFirst = new TreeMap<>(owned);
        owned.clear();
        owned.putAll(before);
        String second = expression(type, room - 1);
        Map<Character, Integer> onlyFirst = new TreeMap<>(afterFirst);
        onlyFirst.keySet().removeAll(owned.keySet());
        Map<Character, Integer> onlySecond = new TreeMap<>(owned);
        onlySecond.keySet().removeAll(afterFirst.keySet());
        owned.keySet().removeAll(onlySecond.keySet());
        return "?" + condition + "(" + givingUp(onlyFirst, first) + "|" + givingUp(onlySecond, second) + ")";
    }

    private String binding(int type, int room) {
        char v = (char) ('c' + random.nextInt(8));
        if (types.containsKey(v)) {
            return expression(type, room - 1);
        }
        int bound = random.nextInt(3);
        String first = expression(bound, room - 1);
        // The first part may have bound it for itself, and let it go again.
        bind(v, bound);
        String second = expression(type, room - 1);
        types.remove(v);
        Map<Character, Integer> left = new TreeMap<>(owned);
        left.keySet().retainAll(Set.of(v));
        owned.remove(v);
        return "&" + v + "=" + first + ";" + givingUp(left, second);
    }

    private String call(int type, int room) {
        char name = "ABCD".charAt(random.nextInt(4));
        String head = texts.getOrDefault(name, self.startsWith("" + name) ? self : null);
        if (head == null || head.charAt(head.indexOf('=') - 1) - '0' != type) {
            return null;
        }
        StringBuilder call = new StringBuilder().append(name).append('(');
        for (int i = 2; head.charAt(i) != ')'; i++) {
            char c = head.charAt(i);
            if (c == ',') {
                call.append(',');
            } else if (c >= '0' && c <= '2') {
                call.append(expression(c - '0', Math.min(room - 1, 2)));
            }
        }
        return call.append(')').toString();
    }

    private Character pick(int type, boolean array) {
        Character found = null;
        for (Map.Entry<Character, Integer> e : (array ? owned : types).entrySet()) {
            if (e.getValue() == type && (found == null || random.nextBoolean())) {
                found = e.getKey();
            }
        }
        return found;
    }
}
