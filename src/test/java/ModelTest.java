import java.util.Arrays;
import java.util.Random;

/** Promises 3, 4 and 6 to 14: the machine against the model, on texts and queries from fixed seeds. */
final class ModelTest {
    private static final int MACHINES = 16000;
    private static final int TURNS = 12;
    /** Enough for all but the characters of long texts. */
    private static final int CALLS_OF_A_TURN = 150;
    private static final int CALLS_WITHOUT_CHARACTERS = 90;
    private static final int MOST_CHARACTERS = 60;
    private static final String SIGNS = "[]{},:\"\\ -0129eatrufnlsx.";

    private static final int[] LEAVES = {0, 1, 2, 3, 4, 5, 6, 7, 15, 17, 18, 19, 20, 21};
    /** Leaves for null, false, true and integers, for strings, for lists and for objects. */
    private static final int[][] LEAVES_OF = {
        {0, 5, 5, 6, 7, 15, 17, 19}, {0, 0, 5, 6, 15, 20}, {0, 2, 3, 3, 3, 3, 4, 15, 20}, {0, 1, 1, 3, 3, 3, 4, 15, 21}
    };
    private static final int[] OTHERS = {8, 8, 8, 8, 9, 9, 9, 9, 10, 11, 11, 12, 12, 13, 14, 16, 22, 22, 23, 24, 25, 26};

    private final Random random;
    private final Rig rig = new Rig();
    private final Model model = new Model();
    private Object document = Model.NULL;
    private Model.Node query = new Model.Node();

    private ModelTest(long seed) {
        random = new Random(seed);
    }

    public static void main(String[] args) {
        int[] endings = new int[4];
        int[] documents = new int[2];
        for (int seed = 0; seed < MACHINES; seed++) {
            ModelTest test = new ModelTest(seed);
            for (int turn = 0; turn < TURNS && test.rig.callsLeft() >= CALLS_OF_A_TURN; turn++) {
                // A document may stay, so that an adopted one is run on, too.
                if (test.random.nextInt(3) == 0) {
                    documents[test.document() ? 1 : 0]++;
                }
                test.query();
                endings[test.run()]++;
            }
        }
        for (int ending = 0; ending < 4; ending++) {
            Rig.check("ending " + ending + " is met often", endings[ending] > 500, true);
        }
        Rig.check("bad texts are met often", documents[0] > 1000, true);
        Rig.check("good texts are met often", documents[1] > 1000, true);
        Rig.end(ModelTest.class);
    }

    // ---- documents

    private boolean document() {
        String text = random.nextInt(6) == 0 ? anySigns() : value(random.nextInt(9));
        if (random.nextInt(4) == 0) {
            text = spoiled(text);
        }
        text = text.substring(0, Math.min(120, text.length()));
        Object read = model.read(text);
        rig.text(text);
        String due = read == null ? Rig.ARGUMENT : Rig.NOTHING_THROWN;
        rig.counts(2);
        Rig.check("document of " + text, Rig.thrown(rig.machine::document), due);
        Rig.check("bad in " + text, rig.machine.bad(), model.bad);
        document = read == null ? document : read;
        checkText(-1, document);
        return read != null;
    }

    private String anySigns() {
        StringBuilder text = new StringBuilder();
        for (int i = random.nextInt(30); i > 0; i--) {
            text.append(SIGNS.charAt(random.nextInt(SIGNS.length())));
        }
        return text.toString();
    }

    private String spoiled(String text) {
        if (text.isEmpty()) {
            return text;
        }
        int at = random.nextInt(text.length());
        char sign = SIGNS.charAt(random.nextInt(SIGNS.length()));
        switch (random.nextInt(4)) {
            case 0:
                return text.substring(0, at);
            case 1:
                return text.substring(0, at) + text.substring(at + 1);
            case 2:
                return text.substring(0, at) + sign + text.substring(at);
            default:
                return text.substring(0, at) + sign + text.substring(at + 1);
        }
    }

    private String value(int depth) {
        int kind = random.nextInt(depth == 0 ? 6 : 12);
        String blank = random.nextInt(8) == 0 ? " " : "";
        switch (kind) {
            case 0:
                return blank + "null";
            case 1:
                return blank + "false" + blank;
            case 2:
                return "true" + blank;
            case 3:
                return blank + random.nextInt(4);
            case 4:
                return "" + (random.nextInt(4) == 0 ? extreme() : random.nextInt(300) - 150);
            case 5:
                return string();
            case 6: case 7: case 8:
                StringBuilder list = new StringBuilder("[").append(blank);
                for (int i = size(); i > 0; i--) {
                    list.append(value(depth - 1)).append(i > 1 ? "," : "");
                }
                return list.append("]").append(blank).toString();
            default:
                StringBuilder object = new StringBuilder("{").append(blank);
                for (int i = size(); i > 0; i--) {
                    object.append(string()).append(blank).append(":").append(value(depth - 1)).append(i > 1 ? "," : "");
                }
                return object.append("}").append(blank).toString();
        }
    }

    private int size() {
        return random.nextInt(10) == 0 ? random.nextInt(20) : random.nextInt(4);
    }

    private String extreme() {
        String[] some = {"9223372036854775807", "-9223372036854775808", "9223372036854775808", "-9223372036854775809", "-0",
            "1000000000000000000", "10000000000000000000"};
        return some[random.nextInt(some.length)];
    }

    private String string() {
        if (random.nextInt(3) > 0) {
            return "\"" + (char) ('a' + random.nextInt(4)) + "\"";
        }
        StringBuilder string = new StringBuilder("\"");
        for (int i = random.nextInt(8) == 0 ? 20 + random.nextInt(6) : random.nextInt(4); i > 0; i--) {
            String[] some = {"a", "b", "Z", " ", "\\\"", "\\\\", "~"};
            string.append(some[random.nextInt(some.length)]);
        }
        return string.append("\"").toString();
    }

    // ---- queries

    private final int[] bytes = new int[60];
    private int length;

    private void query() {
        length = 0;
        manyFirst();
        part(2 + random.nextInt(8), document);
        if (random.nextInt(20) == 0) {
            bytes[random.nextInt(length)] = random.nextInt(30);
        }
        if (random.nextInt(30) == 0) {
            length = Math.min(60, length + 1 - random.nextInt(3));
        }
        int[] made = Arrays.copyOf(bytes, length);
        rig.bytes(made);
        Model.Node parsed = model.parsed(made);
        String due = parsed == null ? Rig.ARGUMENT : Rig.NOTHING_THROWN;
        rig.counts(1);
        Rig.check("query of " + Arrays.toString(made), Rig.thrown(rig.machine::query), due);
        query = parsed == null ? query : parsed;
    }

    /** Often many values lead into the rest of the query, so that lists grow long and runs come to sixteen. */
    private void manyFirst() {
        for (int i = random.nextInt(6) - 2; i > 0; i--) {
            append(8);
            append(9);
            append(random.nextInt(2) == 0 ? 4 : 0);
            append(random.nextInt(3) == 0 ? 4 : 0);
        }
    }

    private void append(int oneByte) {
        if (length < 60) {
            bytes[length++] = oneByte;
        }
    }

    /** Appends a part that does not always fail on the value it. */
    private void part(int depth, Object it) {
        int chosen = depth == 0 || length > 45 || random.nextInt(4) == 0 ? leaf(it) : OTHERS[random.nextInt(OTHERS.length)];
        append(chosen);
        if (chosen == 1 || chosen == 6 || chosen == 16) {
            append('a' + random.nextInt(4));
        } else if (chosen == 2 || chosen == 5) {
            append(random.nextInt(9) == 0 ? random.nextInt(256) : 124 + random.nextInt(9));
        }
        int from = length;
        for (int i = 0; i < Model.howMany(chosen); i++) {
            boolean fromThat = chosen == 8 && i == 1 || chosen == 14 && i == 2;
            int begun = length;
            if (chosen == 22 && i == 1 && random.nextInt(2) == 0) {
                again(from);
            } else {
                part(depth - 1, fromThat ? oneValue(from, it) : it);
            }
            from = begun;
        }
    }

    private int leaf(Object it) {
        int[] leaves = random.nextInt(8) == 0 ? LEAVES : LEAVES_OF[Math.max(0, Model.kind(it) - 3)];
        return leaves[random.nextInt(leaves.length)];
    }

    /** Appends the latest part once more, as two of a kind can be added. */
    private void again(int from) {
        int to = length;
        for (int i = from; i < to; i++) {
            append(bytes[i]);
        }
    }

    /** One of the values to which the part from there leads. */
    private Object oneValue(int from, Object it) {
        Model trial = new Model();
        Model.Node node = trial.parsed(Arrays.copyOfRange(bytes, from, length));
        if (node == null) {
            return it;
        }
        trial.run(node, it, 60);
        return trial.values.isEmpty() ? it : trial.values.get(random.nextInt(trial.values.size()));
    }

    // ---- runs

    private int run() {
        int fuel = random.nextInt(3) == 0 ? random.nextInt(30) : random.nextInt(251);
        model.run(query, document, fuel);
        String due = model.values.size() + " ended " + model.ended + " left " + model.fuel;
        String what = Arrays.toString(Arrays.copyOf(bytes, length)) + " on " + Model.text(document) + " with " + fuel;
        rig.counts(4);
        int count = rig.machine.run(fuel);
        Rig.check(what, count + " ended " + rig.machine.ended() + " left " + rig.machine.left(), due);
        Rig.check("count", rig.machine.count(), count);
        for (int k = 0; k < Math.min(count, model.values.size()); k++) {
            checkValue(k, model.values.get(k));
        }
        if (!model.values.isEmpty() && random.nextInt(3) == 0) {
            int k = longest();
            rig.counts(1);
            rig.machine.adopt(k);
            document = model.values.get(k);
            checkValue(-1, document);
        }
        return model.ended;
    }

    private int longest() {
        int longest = 0;
        for (int k = 1; k < model.values.size(); k++) {
            if (Model.text(model.values.get(k)).length() > Model.text(model.values.get(longest)).length()) {
                longest = k;
            }
        }
        return longest;
    }

    private void checkValue(int k, Object value) {
        rig.counts(2);
        Rig.check("kind", rig.machine.kind(k), Model.kind(value));
        if (value instanceof Long) {
            Rig.check("integer", rig.machine.integer(k), value);
        } else {
            Rig.check("integer", Rig.thrown(() -> rig.machine.integer(k)), Rig.STATE);
        }
        checkText(k, value);
    }

    private void checkText(int k, Object value) {
        String text = Model.text(value);
        int most = Math.min(MOST_CHARACTERS, rig.callsLeft() - CALLS_WITHOUT_CHARACTERS);
        rig.checkWritten(k, text, random.nextInt(text.length()), Math.max(0, most));
    }
}
