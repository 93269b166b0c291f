import java.math.BigInteger;
import java.util.ArrayList;
import java.util.LinkedHashMap;
import java.util.List;
import java.util.Map;
import java.util.function.Consumer;

/**
 * The document's rules once more, written another way: the text is read sign by sign with a stack, and a part pushes its
 * values on to what follows. Values are NULL, Boolean, Long, String, List and Map.
 */
final class Model {
    static final Object NULL = new Object();

    /** A part fails. */
    private static final class Failure extends RuntimeException {
        private static final long serialVersionUID = 1L;
    }

    /** A failure of what follows a part, on its way through that part, which must not take it for its own. */
    private static final class Passing extends RuntimeException {
        private static final long serialVersionUID = 1L;
        final transient Object whose;

        Passing(Object whose) {
            this.whose = whose;
        }
    }

    private static final class Starved extends RuntimeException {
        private static final long serialVersionUID = 1L;
    }

    private static final class Enough extends RuntimeException {
        private static final long serialVersionUID = 1L;
    }

    /** A part with its parts. */
    static final class Node {
        int part;
        int argument;
        final List<Node> nodes = new ArrayList<>();
    }

    // ---- the document

    /** A list or an object that is open in a text. */
    private static final class Open {
        List<Object> list;
        Map<String, Object> object;
        String key;
        int commas;
    }

    private enum Mode { VALUE, VALUE_OR_END, KEY, KEY_OR_END, COLON, BEHIND }

    int bad = -1;
    private Object top;
    private final List<Open> open = new ArrayList<>();
    private Mode mode;

    /** The value, or null and the place in bad. */
    Object read(String text) {
        bad = -1;
        top = null;
        open.clear();
        mode = Mode.VALUE;
        int at = 0;
        while (at >= 0 && at < text.length()) {
            at = text.charAt(at) == ' ' ? at + 1 : sign(text, at);
        }
        if (bad < 0 && (mode != Mode.BEHIND || !open.isEmpty())) {
            bad = text.length();
        }
        return bad < 0 ? top : null;
    }

    private int refuse(int at) {
        bad = at;
        return -1;
    }

    private Open inner() {
        return open.isEmpty() ? null : open.get(open.size() - 1);
    }

    private int sign(String text, int at) {
        char c = text.charAt(at);
        boolean closes = c == ']' && (mode == Mode.VALUE_OR_END || mode == Mode.BEHIND) && inner() != null && inner().list != null
            || c == '}' && (mode == Mode.KEY_OR_END || mode == Mode.BEHIND) && inner() != null && inner().object != null;
        if (closes) {
            Open closed = open.remove(open.size() - 1);
            placed(closed.list != null ? closed.list : closed.object);
            return at + 1;
        }
        switch (mode) {
            case COLON:
                mode = Mode.VALUE;
                return c == ':' ? at + 1 : refuse(at);
            case BEHIND:
                if (c != ',' || inner() == null || ++inner().commas == 16) {
                    return refuse(at);
                }
                mode = inner().list != null ? Mode.VALUE : Mode.KEY;
                return at + 1;
            case KEY:
            case KEY_OR_END:
                return c == '"' ? string(text, at) : refuse(at);
            default:
                return open.size() > 7 ? refuse(at) : value(text, at);
        }
    }

    private int value(String text, int at) {
        char c = text.charAt(at);
        if (c == '[' || c == '{') {
            Open opened = new Open();
            opened.list = c == '[' ? new ArrayList<>() : null;
            opened.object = c == '{' ? new LinkedHashMap<>() : null;
            open.add(opened);
            mode = c == '[' ? Mode.VALUE_OR_END : Mode.KEY_OR_END;
            return at + 1;
        }
        if (c == '"') {
            return string(text, at);
        }
        String[] words = {"null", "false", "true"};
        Object[] values = {NULL, false, true};
        for (int i = 0; i < words.length; i++) {
            if (c == words[i].charAt(0)) {
                return word(text, at, words[i], values[i]);
            }
        }
        return integer(text, at);
    }

    private int word(String text, int at, String word, Object value) {
        for (int i = 0; i < word.length(); i++) {
            if (at + i == text.length() || text.charAt(at + i) != word.charAt(i)) {
                return refuse(at + i);
            }
        }
        placed(value);
        return at + word.length();
    }

    private int integer(String text, int at) {
        int i = at;
        String digits = "";
        if (text.charAt(i) == '-') {
            digits = "-";
            i++;
        }
        int first = i;
        while (i < text.length() && Character.isDigit(text.charAt(i)) && (i == first || text.charAt(first) != '0')) {
            digits += text.charAt(i);
            if (new BigInteger(digits).bitLength() > 63) {
                return refuse(i);
            }
            i++;
        }
        if (i == first) {
            return refuse(i);
        }
        placed(Long.parseLong(digits));
        return i;
    }

    private int string(String text, int at) {
        StringBuilder string = new StringBuilder();
        for (int i = at + 1; i < text.length(); i++) {
            char c = text.charAt(i);
            if (c == '"') {
                finishedString(string.toString());
                return i + 1;
            }
            if (c == '\\') {
                i++;
                if (i == text.length() || text.charAt(i) != '"' && text.charAt(i) != '\\') {
                    return refuse(i);
                }
            }
            string.append(text.charAt(i));
            if (string.length() == 25) {
                return refuse(i);
            }
        }
        return refuse(text.length());
    }

    private void finishedString(String string) {
        if (mode == Mode.KEY || mode == Mode.KEY_OR_END) {
            inner().key = string;
            mode = Mode.COLON;
        } else {
            placed(string);
        }
    }

    private void placed(Object value) {
        Open around = inner();
        if (around == null) {
            top = value;
        } else if (around.list != null) {
            around.list.add(value);
        } else {
            around.object.put(around.key, value);
        }
        mode = Mode.BEHIND;
    }

    // ---- the query

    private static final String LETTER_PARTS = "1,6,16,";
    private static final String NUMBER_PARTS = "2,5,";

    private int[] bytes;
    private int next;

    /** The query, or null when it is malformed. */
    Node parsed(int[] from) {
        bytes = from;
        next = 0;
        Node node = part(0);
        return next == bytes.length ? node : null;
    }

    private Node part(int depth) {
        if (next >= bytes.length || depth > 12 || bytes[next] > 26) {
            next = Integer.MAX_VALUE;
            return null;
        }
        Node node = new Node();
        node.part = bytes[next++];
        boolean letter = ("," + LETTER_PARTS).contains("," + node.part + ",");
        if (letter || ("," + NUMBER_PARTS).contains("," + node.part + ",")) {
            if (next >= bytes.length || letter && (bytes[next] < 'a' || bytes[next] > 'z')) {
                next = Integer.MAX_VALUE;
                return null;
            }
            node.argument = bytes[next++];
        }
        for (int i = 0; i < howMany(node.part); i++) {
            node.nodes.add(part(depth + 1));
        }
        return node;
    }

    static int howMany(int part) {
        switch (part) {
            case 11: case 14:
                return 3;
            case 12: case 13: case 16:
                return 1;
            case 8: case 9: case 10: case 22: case 23: case 24: case 25: case 26:
                return 2;
            default:
                return 0;
        }
    }

    // ---- the run

    final List<Object> values = new ArrayList<>();
    int fuel;
    int ended;

    void run(Node query, Object document, int allFuel) {
        values.clear();
        fuel = allFuel;
        ended = 0;
        try {
            lead(query, document, NULL, value -> {
                values.add(value);
                if (values.size() == 16) {
                    throw new Enough();
                }
            });
        } catch (Failure e) {
            ended = 1;
        } catch (Starved e) {
            ended = 2;
        } catch (Enough e) {
            ended = 3;
        }
    }

    private void pay() {
        if (fuel == 0) {
            throw new Starved();
        }
        fuel--;
    }

    private static boolean truthy(Object value) {
        return value != NULL && !value.equals(false);
    }

    private static Failure failure() {
        return new Failure();
    }

    /** Leads on to out; answers whether p failed, so that its failure and one behind it are told apart. */
    private boolean failed(Node p, Object it, Object element, Consumer<Object> out) {
        Object me = new Object();
        try {
            lead(p, it, element, value -> {
                try {
                    out.accept(value);
                } catch (Failure e) {
                    throw new Passing(me);
                }
            });
            return false;
        } catch (Failure e) {
            return true;
        } catch (Passing e) {
            if (e.whose == me) {
                throw failure();
            }
            throw e;
        }
    }

    private void lead(Node node, Object it, Object element, Consumer<Object> out) {
        pay();
        Node p = node.nodes.size() > 0 ? node.nodes.get(0) : null;
        Node q = node.nodes.size() > 1 ? node.nodes.get(1) : null;
        Node r = node.nodes.size() > 2 ? node.nodes.get(2) : null;
        switch (node.part) {
            case 3:
                inside(it).forEach(out);
                break;
            case 4:
                out.accept(it);
                if (it instanceof List || it instanceof Map) {
                    inside(it).forEach(value -> lead(node, value, element, out));
                }
                break;
            case 8:
                lead(p, it, element, value -> lead(q, value, element, out));
                break;
            case 9:
                lead(p, it, element, out);
                lead(q, it, element, out);
                break;
            case 10:
                boolean[] some = {false};
                failed(p, it, element, value -> {
                    if (truthy(value)) {
                        some[0] = true;
                        out.accept(value);
                    }
                });
                if (!some[0]) {
                    lead(q, it, element, out);
                }
                break;
            case 11:
                lead(p, it, element, value -> lead(truthy(value) ? q : r, it, element, out));
                break;
            case 12:
                List<Object> list = new ArrayList<>();
                lead(p, it, element, value -> {
                    list.add(value);
                    if (list.size() > 16) {
                        throw failure();
                    }
                });
                out.accept(limited(list));
                break;
            case 13:
                failed(p, it, element, out);
                break;
            case 14:
                lead(q, it, element, start -> {
                    Object[] result = {start};
                    lead(p, it, element, value -> {
                        Object[] last = {NULL};
                        lead(r, result[0], value, one -> last[0] = one);
                        result[0] = last[0];
                    });
                    out.accept(result[0]);
                });
                break;
            case 16:
                if (it != NULL && !(it instanceof Map)) {
                    throw failure();
                }
                lead(p, it, element, value -> {
                    pay();
                    Map<String, Object> object = new LinkedHashMap<>();
                    if (it != NULL) {
                        object.putAll(members(it));
                    }
                    object.put(letter(node), value);
                    out.accept(limited(object));
                });
                break;
            case 17:
                break;
            case 22: case 23: case 24: case 25: case 26:
                lead(p, it, element, x -> lead(q, it, element, y -> {
                    pay();
                    out.accept(limited(together(node.part, x, y)));
                }));
                break;
            default:
                out.accept(single(node, it, element));
                break;
        }
    }

    private static String letter(Node node) {
        return String.valueOf((char) node.argument);
    }

    @SuppressWarnings("unchecked")
    private static Map<String, Object> members(Object value) {
        return (Map<String, Object>) value;
    }

    @SuppressWarnings("unchecked")
    private static List<Object> inside(Object value) {
        if (value instanceof Map) {
            return new ArrayList<>(members(value).values());
        }
        if (value instanceof List) {
            return (List<Object>) value;
        }
        throw failure();
    }

    private static Object single(Node node, Object it, Object element) {
        switch (node.part) {
            case 0:
                return it;
            case 1:
                if (it != NULL && !(it instanceof Map)) {
                    throw failure();
                }
                return it == NULL ? NULL : members(it).getOrDefault(letter(node), NULL);
            case 2:
                if (it != NULL && !(it instanceof List)) {
                    throw failure();
                }
                List<Object> list = it == NULL ? new ArrayList<>() : inside(it);
                int n = node.argument - 128;
                n = n < 0 ? n + list.size() : n;
                return n < 0 || n >= list.size() ? NULL : list.get(n);
            case 5:
                return node.argument - 128L;
            case 6:
                return letter(node);
            case 7:
                return NULL;
            case 15:
                return element;
            case 19:
                return !truthy(it);
            case 20:
                return length(it);
            case 21:
                if (!(it instanceof Map)) {
                    throw failure();
                }
                return new ArrayList<Object>(members(it).keySet());
            default:
                throw failure();
        }
    }

    private static Object length(Object it) {
        if (it == NULL) {
            return 0L;
        }
        if (it instanceof Long) {
            return Math.abs((Long) it);
        }
        return it instanceof String ? (long) ((String) it).length() : (long) inside(it).size();
    }

    private static Object together(int part, Object x, Object y) {
        if (part == 25) {
            return x.equals(y);
        }
        if (part == 26) {
            return less(x, y);
        }
        if (x instanceof Long && y instanceof Long) {
            BigInteger a = BigInteger.valueOf((Long) x);
            BigInteger b = BigInteger.valueOf((Long) y);
            return (part == 22 ? a.add(b) : part == 23 ? a.subtract(b) : a.multiply(b)).longValue();
        }
        if (part != 22) {
            throw failure();
        }
        if (x == NULL || y == NULL) {
            return x == NULL ? y : x;
        }
        if (x instanceof String && y instanceof String) {
            return (String) x + y;
        }
        if (x instanceof List && y instanceof List) {
            List<Object> list = new ArrayList<>(inside(x));
            list.addAll(inside(y));
            return list;
        }
        if (x instanceof Map && y instanceof Map) {
            Map<String, Object> object = new LinkedHashMap<>(members(x));
            object.putAll(members(y));
            return object;
        }
        throw failure();
    }

    private static boolean less(Object x, Object y) {
        if (x instanceof Long && y instanceof Long) {
            return (Long) x < (Long) y;
        }
        if (x instanceof String && y instanceof String) {
            return ((String) x).compareTo((String) y) < 0;
        }
        return kind(x) < kind(y);
    }

    private static Object limited(Object value) {
        boolean tooLong = value instanceof String && ((String) value).length() > 24
            || (value instanceof List || value instanceof Map) && inside(value).size() > 16;
        if (tooLong || around(value) > 7 || howManyIn(value) > 100) {
            throw failure();
        }
        return value;
    }

    private static int around(Object value) {
        int most = 0;
        if (value instanceof List || value instanceof Map) {
            for (Object one : inside(value)) {
                most = Math.max(most, 1 + around(one));
            }
        }
        return most;
    }

    private static int howManyIn(Object value) {
        int all = 1;
        if (value instanceof List || value instanceof Map) {
            for (Object one : inside(value)) {
                all += howManyIn(one);
            }
        }
        return all;
    }

    // ---- what is told

    static int kind(Object value) {
        if (value == NULL) {
            return 0;
        }
        if (value instanceof Boolean) {
            return (Boolean) value ? 2 : 1;
        }
        if (value instanceof Long) {
            return 3;
        }
        return value instanceof String ? 4 : value instanceof List ? 5 : 6;
    }

    static String text(Object value) {
        switch (kind(value)) {
            case 0:
                return "null";
            case 4:
                return '"' + ((String) value).replace("\\", "\\\\").replace("\"", "\\\"") + '"';
            case 5:
                List<String> items = new ArrayList<>();
                inside(value).forEach(item -> items.add(text(item)));
                return "[" + String.join(",", items) + "]";
            case 6:
                List<String> pairs = new ArrayList<>();
                members(value).forEach((key, item) -> pairs.add(text(key) + ":" + text(item)));
                return "{" + String.join(",", pairs) + "}";
            default:
                return value.toString();
        }
    }
}
